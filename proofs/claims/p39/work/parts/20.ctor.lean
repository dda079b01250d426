/-! ===== 20.ctor: constructors of tubs, tents, heaters, refusals, stores (printed by wip/p39/gen/make20.py) ===== -/
theorem v0 : (Jvm.Cond.instanceMethod ({ cls := "java/lang/Object", name := "<init>", desc := "()V" } : Jvm.MethodName)) ∈ xAll := xin1 (List.mem_of_getElem? (i := 44) (by decide +kernel)) (by decide +kernel)
theorem oi1 : Cond.instanceMethod Lib.objectInit ∈ xAll := v0
theorem v1 : (Jvm.Cond.code ({ cls := "java/lang/Object", name := "<init>", desc := "()V" } : Jvm.MethodName) object_method_1_code (1 : Nat) (Option.none : Option Jvm.ClassFile.FieldType)) ∈ xAll := xin1 (List.mem_of_getElem? (i := 45) (by decide +kernel)) (by decide +kernel)
theorem oi2 : Cond.code Lib.objectInit ⟨#[0xb1]⟩ 1 none ∈ xAll := v1
theorem v2 : (Jvm.Cond.arrayClass Jvm.ClassFile.FieldType.int) ∈ xAll := xin1 (List.mem_of_getElem? (i := 142) (by decide +kernel)) (by decide +kernel)
theorem aw_int : Cond.arrayClass .int ∈ xAll := v2
theorem v3 : (Jvm.Cond.arrayClass Jvm.ClassFile.FieldType.char) ∈ xAll := xin2 (List.mem_of_getElem? (i := 20) (by decide +kernel)) (by decide +kernel)
theorem aw_char : Cond.arrayClass .char ∈ xAll := v3
theorem v4 : (Jvm.Cond.arrayClass Jvm.ClassFile.FieldType.byte) ∈ xAll := xin2 (List.mem_of_getElem? (i := 53) (by decide +kernel)) (by decide +kernel)
theorem aw_byte : Cond.arrayClass .byte ∈ xAll := v4
theorem v5 : (Jvm.Cond.arrayClass Jvm.ClassFile.FieldType.long) ∈ xAll := xin6 (List.mem_of_getElem? (i := 201) (by decide +kernel)) (by decide +kernel)
theorem aw_long : Cond.arrayClass .long ∈ xAll := v5
theorem v6 : (Jvm.Cond.methodLink "TubHire$Tub" (1 : Nat) ({ cls := "java/lang/Object", name := "<init>", desc := "()V" } : Jvm.MethodName)) ∈ xAll := xin1 (List.mem_of_getElem? (i := 77) (by decide +kernel)) (by decide +kernel)
theorem o_X8_init : Cond.methodLink (mY M_X8_init).cls 1 Lib.objectInit ∈ mW M_X8_init := List.mem_cons_of_mem _ v6
theorem v7 : (Jvm.Cond.methodLink "TubHire$Heater" (1 : Nat) ({ cls := "java/lang/Object", name := "<init>", desc := "()V" } : Jvm.MethodName)) ∈ xAll := xin1 (List.mem_of_getElem? (i := 147) (by decide +kernel)) (by decide +kernel)
theorem o_X2_init : Cond.methodLink (mY M_X2_init).cls 1 Lib.objectInit ∈ mW M_X2_init := List.mem_cons_of_mem _ v7
theorem v8 : (Jvm.Cond.methodLink "TubHire$Refusal" (1 : Nat) ({ cls := "java/lang/Object", name := "<init>", desc := "()V" } : Jvm.MethodName)) ∈ xAll := xin1 (List.mem_of_getElem? (i := 57) (by decide +kernel)) (by decide +kernel)
theorem o_X4_init : Cond.methodLink (mY M_X4_init).cls 1 Lib.objectInit ∈ mW M_X4_init := List.mem_cons_of_mem _ v8
theorem v9 : (Jvm.Cond.methodLink "TubHire$Tent" (1 : Nat) ({ cls := "java/lang/Object", name := "<init>", desc := "()V" } : Jvm.MethodName)) ∈ xAll := xin1 (List.mem_of_getElem? (i := 114) (by decide +kernel)) (by decide +kernel)
theorem o_X6_init : Cond.methodLink (mY M_X6_init).cls 1 Lib.objectInit ∈ mW M_X6_init := List.mem_cons_of_mem _ v9
theorem v10 : (Jvm.Cond.methodLink "TubHire$Text" (1 : Nat) ({ cls := "java/lang/Object", name := "<init>", desc := "()V" } : Jvm.MethodName)) ∈ xAll := xin1 (List.mem_of_getElem? (i := 233) (by decide +kernel)) (by decide +kernel)
theorem o_X7_init : Cond.methodLink (mY M_X7_init).cls 1 Lib.objectInit ∈ mW M_X7_init := List.mem_cons_of_mem _ v10
theorem v11 : (Jvm.Cond.methodLink "TubHire$Store" (1 : Nat) ({ cls := "java/lang/Object", name := "<init>", desc := "()V" } : Jvm.MethodName)) ∈ xAll := xin1 (List.mem_of_getElem? (i := 51) (by decide +kernel)) (by decide +kernel)
theorem o_X5_init : Cond.methodLink (mY M_X5_init).cls 1 Lib.objectInit ∈ mW M_X5_init := List.mem_cons_of_mem _ v11
theorem v12 : (Jvm.Cond.classLink "TubHire$Store" (7 : Nat) "TubHire$Refusal") ∈ xAll := xin1 (List.mem_of_getElem? (i := 52) (by decide +kernel)) (by decide +kernel)
theorem v13 : (Jvm.Cond.instantiable "TubHire$Refusal" (2 : Nat)) ∈ xAll := xin1 (List.mem_of_getElem? (i := 53) (by decide +kernel)) (by decide +kernel)
theorem v14 : (Jvm.Cond.initialized "TubHire$Refusal") ∈ xAll := xin1 (List.mem_of_getElem? (i := 3) (by decide +kernel)) (by decide +kernel)
theorem nw_X5_init_7 : xNew M_X5_init 7 6 2 [.int 0, .int 0] := ⟨RX4, TX4, tyX4, rfl, fun w h => List.mem_cons_of_mem _ (inX4 w h), List.mem_cons_of_mem _ v12, List.mem_cons_of_mem _ v13, List.mem_cons_of_mem _ v14, tyX4_ok, by decide +kernel⟩
theorem v15 : (Jvm.Cond.code ({ cls := "TubHire$Refusal", name := "<init>", desc := "()V" } : Jvm.MethodName) prog_6_method_1_code (1 : Nat) (Option.none : Option Jvm.ClassFile.FieldType)) ∈ xAll := xin1 (List.mem_of_getElem? (i := 56) (by decide +kernel)) (by decide +kernel)
theorem v16 : (Jvm.Cond.instanceMethod ({ cls := "TubHire$Refusal", name := "<init>", desc := "()V" } : Jvm.MethodName)) ∈ xAll := xin1 (List.mem_of_getElem? (i := 55) (by decide +kernel)) (by decide +kernel)
theorem ns_X5_init_9 : xSn M_X5_init M_X4_init 9 0 := ⟨"TubHire", by decide +kernel, fun s args hts hN => ⟨va_cnB 0 hts (xGood v15) rfl rfl rfl hN (hts _ (List.mem_cons_of_mem _ v14)) (by decide +kernel) ⟨Nat.le_of_ble_eq_true rfl, Nat.le_of_ble_eq_true rfl⟩, rfl, hts _ (List.mem_cons_of_mem _ v16)⟩⟩
theorem v17 : (Jvm.Cond.classLink "TubHire$Store" (16 : Nat) "TubHire$Tub") ∈ xAll := xin1 (List.mem_of_getElem? (i := 67) (by decide +kernel)) (by decide +kernel)
theorem cl_X5_init_16 : Cond.classLink (mY M_X5_init).cls 16 "TubHire$Tub" ∈ xAll := v17
theorem v18 : (Jvm.Cond.classLink "TubHire$Store" (22 : Nat) "TubHire$Tent") ∈ xAll := xin1 (List.mem_of_getElem? (i := 69) (by decide +kernel)) (by decide +kernel)
theorem cl_X5_init_22 : Cond.classLink (mY M_X5_init).cls 22 "TubHire$Tent" ∈ xAll := v18
theorem v19 : (Jvm.Cond.classLink "TubHire$Store" (28 : Nat) "TubHire$Heater") ∈ xAll := xin1 (List.mem_of_getElem? (i := 71) (by decide +kernel)) (by decide +kernel)
theorem cl_X5_init_28 : Cond.classLink (mY M_X5_init).cls 28 "TubHire$Heater" ∈ xAll := v19
theorem v20 : (Jvm.Cond.instantiable "TubHire$Tub" (7 : Nat)) ∈ xAll := xin1 (List.mem_of_getElem? (i := 73) (by decide +kernel)) (by decide +kernel)
theorem v21 : (Jvm.Cond.initialized "TubHire$Tub") ∈ xAll := xin1 (List.mem_of_getElem? (i := 4) (by decide +kernel)) (by decide +kernel)
theorem nw_X5_init_16 : xNew M_X5_init 16 10 7 [.int 0, .int 0, .int 0, .int 0, .int 0, .int 0, .int 0] := ⟨RX8, TX8, tyX8, rfl, fun w h => List.mem_cons_of_mem _ (inX8 w h), List.mem_cons_of_mem _ v17, List.mem_cons_of_mem _ v20, List.mem_cons_of_mem _ v21, tyX8_ok, by decide +kernel⟩
theorem v22 : (Jvm.Cond.code ({ cls := "TubHire$Tub", name := "<init>", desc := "()V" } : Jvm.MethodName) prog_10_method_1_code (1 : Nat) (Option.none : Option Jvm.ClassFile.FieldType)) ∈ xAll := xin1 (List.mem_of_getElem? (i := 76) (by decide +kernel)) (by decide +kernel)
theorem v23 : (Jvm.Cond.instanceMethod ({ cls := "TubHire$Tub", name := "<init>", desc := "()V" } : Jvm.MethodName)) ∈ xAll := xin1 (List.mem_of_getElem? (i := 75) (by decide +kernel)) (by decide +kernel)
theorem ns_X5_init_65 : xSn M_X5_init M_X8_init 65 0 := ⟨"TubHire", by decide +kernel, fun s args hts hN => ⟨va_cnB 0 hts (xGood v22) rfl rfl rfl hN (hts _ (List.mem_cons_of_mem _ v21)) (by decide +kernel) ⟨Nat.le_of_ble_eq_true rfl, Nat.le_of_ble_eq_true rfl⟩, rfl, hts _ (List.mem_cons_of_mem _ v23)⟩⟩
theorem v24 : (Jvm.Cond.instantiable "TubHire$Tent" (6 : Nat)) ∈ xAll := xin1 (List.mem_of_getElem? (i := 110) (by decide +kernel)) (by decide +kernel)
theorem v25 : (Jvm.Cond.initialized "TubHire$Tent") ∈ xAll := xin1 (List.mem_of_getElem? (i := 5) (by decide +kernel)) (by decide +kernel)
theorem nw_X5_init_22 : xNew M_X5_init 22 8 6 [.int 0, .int 0, .int 0, .int 0, .int 0, .null] := ⟨RX6, TX6, tyX6, rfl, fun w h => List.mem_cons_of_mem _ (inX6 w h), List.mem_cons_of_mem _ v18, List.mem_cons_of_mem _ v24, List.mem_cons_of_mem _ v25, tyX6_ok, by decide +kernel⟩
theorem v26 : (Jvm.Cond.code ({ cls := "TubHire$Tent", name := "<init>", desc := "()V" } : Jvm.MethodName) prog_8_method_1_code (1 : Nat) (Option.none : Option Jvm.ClassFile.FieldType)) ∈ xAll := xin1 (List.mem_of_getElem? (i := 113) (by decide +kernel)) (by decide +kernel)
theorem v27 : (Jvm.Cond.instanceMethod ({ cls := "TubHire$Tent", name := "<init>", desc := "()V" } : Jvm.MethodName)) ∈ xAll := xin1 (List.mem_of_getElem? (i := 112) (by decide +kernel)) (by decide +kernel)
theorem ns_X5_init_66 : xSn M_X5_init M_X6_init 66 0 := ⟨"TubHire", by decide +kernel, fun s args hts hN => ⟨va_cnB 0 hts (xGood v26) rfl rfl rfl hN (hts _ (List.mem_cons_of_mem _ v25)) (by decide +kernel) ⟨Nat.le_of_ble_eq_true rfl, Nat.le_of_ble_eq_true rfl⟩, rfl, hts _ (List.mem_cons_of_mem _ v27)⟩⟩
theorem v28 : (Jvm.Cond.instantiable "TubHire$Heater" (2 : Nat)) ∈ xAll := xin1 (List.mem_of_getElem? (i := 143) (by decide +kernel)) (by decide +kernel)
theorem v29 : (Jvm.Cond.initialized "TubHire$Heater") ∈ xAll := xin1 (List.mem_of_getElem? (i := 6) (by decide +kernel)) (by decide +kernel)
theorem nw_X5_init_28 : xNew M_X5_init 28 4 2 [.int 0, .int 0] := ⟨RX2, TX2, tyX2, rfl, fun w h => List.mem_cons_of_mem _ (inX2 w h), List.mem_cons_of_mem _ v19, List.mem_cons_of_mem _ v28, List.mem_cons_of_mem _ v29, tyX2_ok, by decide +kernel⟩
theorem v30 : (Jvm.Cond.code ({ cls := "TubHire$Heater", name := "<init>", desc := "()V" } : Jvm.MethodName) prog_4_method_1_code (1 : Nat) (Option.none : Option Jvm.ClassFile.FieldType)) ∈ xAll := xin1 (List.mem_of_getElem? (i := 146) (by decide +kernel)) (by decide +kernel)
theorem v31 : (Jvm.Cond.instanceMethod ({ cls := "TubHire$Heater", name := "<init>", desc := "()V" } : Jvm.MethodName)) ∈ xAll := xin1 (List.mem_of_getElem? (i := 145) (by decide +kernel)) (by decide +kernel)
theorem ns_X5_init_67 : xSn M_X5_init M_X2_init 67 0 := ⟨"TubHire", by decide +kernel, fun s args hts hN => ⟨va_cnB 0 hts (xGood v30) rfl rfl rfl hN (hts _ (List.mem_cons_of_mem _ v29)) (by decide +kernel) ⟨Nat.le_of_ble_eq_true rfl, Nat.le_of_ble_eq_true rfl⟩, rfl, hts _ (List.mem_cons_of_mem _ v31)⟩⟩
theorem v32 : (Jvm.Cond.methodLink "TubHire$Past" (3 : Nat) ({ cls := "java/lang/Object", name := "<init>", desc := "()V" } : Jvm.MethodName)) ∈ xAll := xin1 (List.mem_of_getElem? (i := 213) (by decide +kernel)) (by decide +kernel)
theorem o_X3_init : Cond.methodLink (mY M_X3_init).cls 3 Lib.objectInit ∈ mW M_X3_init := List.mem_cons_of_mem _ v32
theorem v33 : (Jvm.Cond.classLink "TubHire$Past" (9 : Nat) "TubHire$Store") ∈ xAll := xin1 (List.mem_of_getElem? (i := 214) (by decide +kernel)) (by decide +kernel)
theorem cl_X3_init_9 : Cond.classLink (mY M_X3_init).cls 9 "TubHire$Store" ∈ xAll := v33
theorem v34 : (Jvm.Cond.instantiable "TubHire$Store" (14 : Nat)) ∈ xAll := xin1 (List.mem_of_getElem? (i := 47) (by decide +kernel)) (by decide +kernel)
theorem v35 : (Jvm.Cond.initialized "TubHire$Store") ∈ xAll := xin1 (List.mem_of_getElem? (i := 2) (by decide +kernel)) (by decide +kernel)
theorem nw_X3_init_9 : xNew M_X3_init 9 7 14 [.null, .null, .null, .null, .int 0, .int 0, .int 0, .int 0, .int 0, .int 0, .int 0, .int 0, .int 0, .int 0] := ⟨RX5, TX5, tyX5, rfl, fun w h => List.mem_cons_of_mem _ (inX5 w h), List.mem_cons_of_mem _ v33, List.mem_cons_of_mem _ v34, List.mem_cons_of_mem _ v35, tyX5_ok, by decide +kernel⟩
theorem v36 : (Jvm.Cond.methodLink "TubHire" (1 : Nat) ({ cls := "java/lang/Object", name := "<init>", desc := "()V" } : Jvm.MethodName)) ∈ xAll := xin1 (List.mem_of_getElem? (i := 43) (by decide +kernel)) (by decide +kernel)
theorem o_X9_init : Cond.methodLink (mY M_X9_init).cls 1 Lib.objectInit ∈ mW M_X9_init := List.mem_cons_of_mem _ v36
theorem v37 : (Jvm.Cond.classLink "TubHire" (7 : Nat) "TubHire$Store") ∈ xAll := xin1 (List.mem_of_getElem? (i := 46) (by decide +kernel)) (by decide +kernel)
theorem nw_X9_init_7 : xNew M_X9_init 7 7 14 [.null, .null, .null, .null, .int 0, .int 0, .int 0, .int 0, .int 0, .int 0, .int 0, .int 0, .int 0, .int 0] := ⟨RX5, TX5, tyX5, rfl, fun w h => List.mem_cons_of_mem _ (inX5 w h), List.mem_cons_of_mem _ v37, List.mem_cons_of_mem _ v34, List.mem_cons_of_mem _ v35, tyX5_ok, by decide +kernel⟩
theorem v38 : (Jvm.Cond.classLink "TubHire" (22 : Nat) "TubHire$Past") ∈ xAll := xin1 (List.mem_of_getElem? (i := 208) (by decide +kernel)) (by decide +kernel)
theorem v39 : (Jvm.Cond.instantiable "TubHire$Past" (3 : Nat)) ∈ xAll := xin1 (List.mem_of_getElem? (i := 209) (by decide +kernel)) (by decide +kernel)
theorem v40 : (Jvm.Cond.initialized "TubHire$Past") ∈ xAll := xin1 (List.mem_of_getElem? (i := 7) (by decide +kernel)) (by decide +kernel)
theorem nw_X9_init_22 : xNew M_X9_init 22 5 3 [.null, .int 0, .int 0] := ⟨RX3, TX3, tyX3, rfl, fun w h => List.mem_cons_of_mem _ (inX3 w h), List.mem_cons_of_mem _ v38, List.mem_cons_of_mem _ v39, List.mem_cons_of_mem _ v40, tyX3_ok, by decide +kernel⟩
theorem v41 : (Jvm.Cond.classLink "TubHire" (29 : Nat) "TubHire$Text") ∈ xAll := xin1 (List.mem_of_getElem? (i := 228) (by decide +kernel)) (by decide +kernel)
theorem v42 : (Jvm.Cond.instantiable "TubHire$Text" (6 : Nat)) ∈ xAll := xin1 (List.mem_of_getElem? (i := 229) (by decide +kernel)) (by decide +kernel)
theorem v43 : (Jvm.Cond.initialized "TubHire$Text") ∈ xAll := xin1 (List.mem_of_getElem? (i := 8) (by decide +kernel)) (by decide +kernel)
theorem nw_X9_init_29 : xNew M_X9_init 29 9 6 [.null, .int 0, .int 0, .null, .int 0, .int 0] := ⟨RX7, TX7, tyX7, rfl, fun w h => List.mem_cons_of_mem _ (inX7 w h), List.mem_cons_of_mem _ v41, List.mem_cons_of_mem _ v42, List.mem_cons_of_mem _ v43, tyX7_ok, by decide +kernel⟩
theorem v44 : (Jvm.Cond.code ({ cls := "TubHire$Text", name := "<init>", desc := "()V" } : Jvm.MethodName) prog_9_method_1_code (1 : Nat) (Option.none : Option Jvm.ClassFile.FieldType)) ∈ xAll := xin1 (List.mem_of_getElem? (i := 232) (by decide +kernel)) (by decide +kernel)
theorem v45 : (Jvm.Cond.instanceMethod ({ cls := "TubHire$Text", name := "<init>", desc := "()V" } : Jvm.MethodName)) ∈ xAll := xin1 (List.mem_of_getElem? (i := 231) (by decide +kernel)) (by decide +kernel)
theorem ns_X9_init_31 : xSn M_X9_init M_X7_init 31 0 := ⟨"TubHire", by decide +kernel, fun s args hts hN => ⟨va_cnB 0 hts (xGood v44) rfl rfl rfl hN (hts _ (List.mem_cons_of_mem _ v43)) (by decide +kernel) ⟨Nat.le_of_ble_eq_true rfl, Nat.le_of_ble_eq_true rfl⟩, rfl, hts _ (List.mem_cons_of_mem _ v45)⟩⟩
def tub0 : Nat → Int32 := fun k => if k = 1 then -1 else if k = 4 then 10 else 0
def tnt0 : Nat → Int32 := fun k => if k = 1 then -1 else if k = 2 then -1 else 0
def htr0 : Nat → Int32 := fun k => if k = 0 then 20 else -1
def sc0 : Nat → Int32 := fun k => if k = 4 then 12 else if k = 6 then 10 else if k = 7 then 10 else 0
def co0 : xCo := (sc0, fun _ => tub0, fun _ => tnt0, fun _ => htr0)
set_option maxRecDepth 100000 in
set_option maxHeartbeats 4000000 in
theorem ct_X8_init {E : xE} {Po : xPo} {w : xW} {a : Nat} (hw : w.1 a = some (.inr (10, [.int 0, .int 0, .int 0, .int 0, .int 0, .int 0, .int 0]))) (hp : Po (.inl none) (xset w a (tubE tub0))) : Ct M_X8_init E [.ref a] w Po := by
  refine Ct.of (ws2 := xAll) (L := [some (.ref a)]) (by decide +kernel) rfl rfl (List.forall_mem_cons.mpr ⟨rfl, fun _ h => absurd h List.not_mem_nil⟩) (Nat.le_of_ble_eq_true rfl) rfl ?_
  refine r_aload_n (q := 1) dX8_init_0 rfl rfl rfl ?_
  refine r_objInit (q := 4) dX8_init_1 o_X8_init (List.mem_cons_of_mem _ oi1) (List.mem_cons_of_mem _ oi2) (Nat.le_of_ble_eq_true rfl) (Nat.le_of_ble_eq_true rfl) (Nat.le_of_ble_eq_true rfl) rfl ?_
  refine r_aload_n (q := 5) dX8_init_4 rfl rfl rfl ?_
  refine r_iconst (q := 6) (v := 0) dX8_init_5 rfl rfl ?_
  refine r_putfield (q := 9) dX8_init_6 f_X8_init_7 hw rfl rfl (Nat.le_of_ble_eq_true rfl) rfl ?_
  refine r_aload_n (q := 10) dX8_init_9 rfl rfl rfl ?_
  refine r_iconst (q := 11) (v := (-1)) dX8_init_10 rfl rfl ?_
  refine r_putfield (q := 14) dX8_init_11 f_X8_init_13 xset_s rfl rfl (Nat.le_of_ble_eq_true rfl) rfl ?_
  rw [xset_xset]
  refine r_aload_n (q := 15) dX8_init_14 rfl rfl rfl ?_
  refine r_iconst (q := 16) (v := 0) dX8_init_15 rfl rfl ?_
  refine r_putfield (q := 19) dX8_init_16 f_X8_init_16 xset_s rfl rfl (Nat.le_of_ble_eq_true rfl) rfl ?_
  rw [xset_xset]
  refine r_aload_n (q := 20) dX8_init_19 rfl rfl rfl ?_
  refine r_iconst (q := 21) (v := 0) dX8_init_20 rfl rfl ?_
  refine r_putfield (q := 24) dX8_init_21 f_X8_init_19 xset_s rfl rfl (Nat.le_of_ble_eq_true rfl) rfl ?_
  rw [xset_xset]
  refine r_aload_n (q := 25) dX8_init_24 rfl rfl rfl ?_
  refine r_bipush (q := 27) (v := 10) dX8_init_25 (by decide) rfl ?_
  refine r_putfield (q := 30) dX8_init_27 f_X8_init_22 xset_s rfl rfl (Nat.le_of_ble_eq_true rfl) rfl ?_
  rw [xset_xset]
  refine r_aload_n (q := 31) dX8_init_30 rfl rfl rfl ?_
  refine r_iconst (q := 32) (v := 0) dX8_init_31 rfl rfl ?_
  refine r_putfield (q := 35) dX8_init_32 f_X8_init_25 xset_s rfl rfl (Nat.le_of_ble_eq_true rfl) rfl ?_
  rw [xset_xset]
  refine r_aload_n (q := 36) dX8_init_35 rfl rfl rfl ?_
  refine r_iconst (q := 37) (v := 0) dX8_init_36 rfl rfl ?_
  refine r_putfield (q := 40) dX8_init_37 f_X8_init_29 xset_s rfl rfl (Nat.le_of_ble_eq_true rfl) rfl ?_
  rw [xset_xset]
  refine r_vret dX8_init_40 rfl (Nat.le_of_ble_eq_true rfl) (Nat.le_of_ble_eq_true rfl) ?_
  exact hp
set_option maxRecDepth 100000 in
set_option maxHeartbeats 4000000 in
theorem ct_X2_init {E : xE} {Po : xPo} {w : xW} {a : Nat} (hw : w.1 a = some (.inr (4, [.int 0, .int 0]))) (hp : Po (.inl none) (xset w a (htrE htr0))) : Ct M_X2_init E [.ref a] w Po := by
  refine Ct.of (ws2 := xAll) (L := [some (.ref a)]) (by decide +kernel) rfl rfl (List.forall_mem_cons.mpr ⟨rfl, fun _ h => absurd h List.not_mem_nil⟩) (Nat.le_of_ble_eq_true rfl) rfl ?_
  refine r_aload_n (q := 1) dX2_init_0 rfl rfl rfl ?_
  refine r_objInit (q := 4) dX2_init_1 o_X2_init (List.mem_cons_of_mem _ oi1) (List.mem_cons_of_mem _ oi2) (Nat.le_of_ble_eq_true rfl) (Nat.le_of_ble_eq_true rfl) (Nat.le_of_ble_eq_true rfl) rfl ?_
  refine r_aload_n (q := 5) dX2_init_4 rfl rfl rfl ?_
  refine r_bipush (q := 7) (v := 20) dX2_init_5 (by decide) rfl ?_
  refine r_putfield (q := 10) dX2_init_7 f_X2_init_7 hw rfl rfl (Nat.le_of_ble_eq_true rfl) rfl ?_
  refine r_aload_n (q := 11) dX2_init_10 rfl rfl rfl ?_
  refine r_iconst (q := 12) (v := (-1)) dX2_init_11 rfl rfl ?_
  refine r_putfield (q := 15) dX2_init_12 f_X2_init_13 xset_s rfl rfl (Nat.le_of_ble_eq_true rfl) rfl ?_
  rw [xset_xset]
  refine r_vret dX2_init_15 rfl (Nat.le_of_ble_eq_true rfl) (Nat.le_of_ble_eq_true rfl) ?_
  exact hp
set_option maxRecDepth 100000 in
set_option maxHeartbeats 4000000 in
theorem ct_X4_init {E : xE} {Po : xPo} {w : xW} {a : Nat} (hw : w.1 a = some (.inr (6, [.int 0, .int 0]))) (hp : Po (.inl none) (xset w a (rfsE (fun _ => 0)))) : Ct M_X4_init E [.ref a] w Po := by
  refine Ct.of (ws2 := xAll) (L := [some (.ref a)]) (by decide +kernel) rfl rfl (List.forall_mem_cons.mpr ⟨rfl, fun _ h => absurd h List.not_mem_nil⟩) (Nat.le_of_ble_eq_true rfl) rfl ?_
  refine r_aload_n (q := 1) dX4_init_0 rfl rfl rfl ?_
  refine r_objInit (q := 4) dX4_init_1 o_X4_init (List.mem_cons_of_mem _ oi1) (List.mem_cons_of_mem _ oi2) (Nat.le_of_ble_eq_true rfl) (Nat.le_of_ble_eq_true rfl) (Nat.le_of_ble_eq_true rfl) rfl ?_
  refine r_aload_n (q := 5) dX4_init_4 rfl rfl rfl ?_
  refine r_iconst (q := 6) (v := 0) dX4_init_5 rfl rfl ?_
  refine r_putfield (q := 9) dX4_init_6 f_X4_init_7 hw rfl rfl (Nat.le_of_ble_eq_true rfl) rfl ?_
  refine r_aload_n (q := 10) dX4_init_9 rfl rfl rfl ?_
  refine r_iconst (q := 11) (v := 0) dX4_init_10 rfl rfl ?_
  refine r_putfield (q := 14) dX4_init_11 f_X4_init_13 xset_s rfl rfl (Nat.le_of_ble_eq_true rfl) rfl ?_
  rw [xset_xset]
  refine r_vret dX4_init_14 rfl (Nat.le_of_ble_eq_true rfl) (Nat.le_of_ble_eq_true rfl) ?_
  exact hp
theorem xadd_set {w : xW} {a : Nat} {e e2 : va_E} (h : a ≠ w.2) : xadd (xset w a e) e2 = xset (xadd w e2) a e := by
  refine Prod.ext ?_ rfl
  funext q
  show (if q = w.2 then _ else (if q = a then _ else _)) = (if q = a then _ else (if q = w.2 then _ else _))
  by_cases h1 : q = a
  · subst h1; simp [h]
  · by_cases h2 : q = w.2 <;> simp [h1, h2, Ne.symm h]
set_option maxRecDepth 100000 in
set_option maxHeartbeats 4000000 in
theorem ct_X6_init {E : xE} {Po : xPo} {w : xW} {a : Nat} (ha : a < w.2) (hw : w.1 a = some (.inr (8, [.int 0, .int 0, .int 0, .int 0, .int 0, .null]))) (hp : Po (.inl none) (xset (xadd w (gstE E tnt0)) a (tntE w.2 tnt0))) : Ct M_X6_init E [.ref a] w Po := by
  refine Ct.of (ws2 := xAll) (L := [some (.ref a)]) (by decide +kernel) rfl rfl (List.forall_mem_cons.mpr ⟨rfl, fun _ h => absurd h List.not_mem_nil⟩) (Nat.le_of_ble_eq_true rfl) rfl ?_
  refine r_aload_n (q := 1) dX6_init_0 rfl rfl rfl ?_
  refine r_objInit (q := 4) dX6_init_1 o_X6_init (List.mem_cons_of_mem _ oi1) (List.mem_cons_of_mem _ oi2) (Nat.le_of_ble_eq_true rfl) (Nat.le_of_ble_eq_true rfl) (Nat.le_of_ble_eq_true rfl) rfl ?_
  refine r_aload_n (q := 5) dX6_init_4 rfl rfl rfl ?_
  refine r_iconst (q := 6) (v := 0) dX6_init_5 rfl rfl ?_
  refine r_putfield (q := 9) dX6_init_6 f_X6_init_7 hw rfl rfl (Nat.le_of_ble_eq_true rfl) rfl ?_
  refine r_aload_n (q := 10) dX6_init_9 rfl rfl rfl ?_
  refine r_iconst (q := 11) (v := (-1)) dX6_init_10 rfl rfl ?_
  refine r_putfield (q := 14) dX6_init_11 f_X6_init_13 xset_s rfl rfl (Nat.le_of_ble_eq_true rfl) rfl ?_
  rw [xset_xset]
  refine r_aload_n (q := 15) dX6_init_14 rfl rfl rfl ?_
  refine r_iconst (q := 16) (v := (-1)) dX6_init_15 rfl rfl ?_
  refine r_putfield (q := 19) dX6_init_16 f_X6_init_16 xset_s rfl rfl (Nat.le_of_ble_eq_true rfl) rfl ?_
  rw [xset_xset]
  refine r_aload_n (q := 20) dX6_init_19 rfl rfl rfl ?_
  refine r_iconst (q := 21) (v := 0) dX6_init_20 rfl rfl ?_
  refine r_putfield (q := 24) dX6_init_21 f_X6_init_19 xset_s rfl rfl (Nat.le_of_ble_eq_true rfl) rfl ?_
  rw [xset_xset]
  refine r_aload_n (q := 25) dX6_init_24 rfl rfl rfl ?_
  refine r_iconst (q := 26) (v := 0) dX6_init_25 rfl rfl ?_
  refine r_putfield (q := 29) dX6_init_26 f_X6_init_22 xset_s rfl rfl (Nat.le_of_ble_eq_true rfl) rfl ?_
  rw [xset_xset]
  refine r_aload_n (q := 30) dX6_init_29 rfl rfl rfl ?_
  refine r_bipush (q := 32) (v := 6) dX6_init_30 (by decide) rfl ?_
  refine r_newarray (q := 34) (ty := .int) (t0 := 0) (N := 6) (a0 := (6, .inl (fun _ => 0))) dX6_init_32 rfl (List.mem_cons_of_mem _ aw_int) rfl (fun _ h => h) rfl (by decide) (by decide) (Nat.le_of_ble_eq_true rfl) (Nat.le_of_ble_eq_true rfl) (Nat.le_of_ble_eq_true rfl) rfl ?_
  refine r_putfieldF (q := 37) dX6_init_34 f_X6_init_25 rfl rfl ((xadd_o (by show a ≠ w.2; omega)).trans xset_s) rfl rfl (by exact Nat.le_of_ble_eq_true rfl) rfl ?_
  refine r_vret dX6_init_37 rfl (Nat.le_of_ble_eq_true rfl) (Nat.le_of_ble_eq_true rfl) ?_
  rw [xadd_set (show a ≠ w.2 by omega), xset_xset]
  have hg : gstE E tnt0 = (.inl (E.1.2 0, 6, .inl (fun _ => 0)) : va_E) := by
    unfold gstE
    congr 4
    funext k
    split
    · unfold tnt0; rw [if_neg (by omega), if_neg (by omega)]
    · rfl
  rw [hg] at hp
  exact hp
