/-! ===== 51.init: the hire made (rows laid by wip/p39/gen/make51.py) ===== -/
theorem iw0 : (Jvm.Cond.classLink "TubHire" (36 : Nat) "java/lang/StringBuilder") ∈ xAll := xin2 (List.mem_of_getElem? (i := 21) (by decide +kernel)) (by decide +kernel)
theorem iw1 : (Jvm.Cond.instantiable "java/lang/StringBuilder" (4 : Nat)) ∈ xAll := xin2 (List.mem_of_getElem? (i := 22) (by decide +kernel)) (by decide +kernel)
theorem iw2 : (Jvm.Cond.initialized "java/lang/StringBuilder") ∈ xAll := xin1 (List.mem_of_getElem? (i := 12) (by decide +kernel)) (by decide +kernel)
theorem nw_X9_init_36 : xNew M_X9_init 36 1 4 [.null, .int 0, .int 0, .int 0] := ⟨RJ4, TJ4, tyJ4, rfl, fun w h => List.mem_cons_of_mem _ (inJ4 w h), List.mem_cons_of_mem _ (iw0), List.mem_cons_of_mem _ (iw1), List.mem_cons_of_mem _ (iw2), tyJ4_ok, by decide +kernel⟩
theorem iw3 : (Jvm.Cond.code ({ cls := "java/lang/StringBuilder", name := "<init>", desc := "()V" } : Jvm.MethodName) prog_31_method_1_code (1 : Nat) (Option.none : Option Jvm.ClassFile.FieldType)) ∈ xAll := xin2 (List.mem_of_getElem? (i := 25) (by decide +kernel)) (by decide +kernel)
theorem iw4 : (Jvm.Cond.methodLink "TubHire" (38 : Nat) ({ cls := "java/lang/StringBuilder", name := "<init>", desc := "()V" } : Jvm.MethodName)) ∈ xAll := xin2 (List.mem_of_getElem? (i := 23) (by decide +kernel)) (by decide +kernel)
theorem iw5 : (Jvm.Cond.instanceMethod ({ cls := "java/lang/StringBuilder", name := "<init>", desc := "()V" } : Jvm.MethodName)) ∈ xAll := xin2 (List.mem_of_getElem? (i := 24) (by decide +kernel)) (by decide +kernel)
theorem s_X9_init_38 : xSi M_X9_init M_J4_init_da8c8 38 0 := fun s args hts => cwI 0 hts (xGood iw3) rfl rfl rfl (hts _ (List.mem_cons_of_mem _ (iw2))) (hts _ (List.mem_cons_of_mem _ (iw4))) (hts _ (List.mem_cons_of_mem _ (iw5))) rfl (by decide +kernel) ⟨Nat.le_of_ble_eq_true rfl, Nat.le_of_ble_eq_true rfl⟩
/-- the hire as it is made: nothing in the store, nothing noted, no input, nothing written -/
def h9 (x : Nat) : xHi := (fun _ => co0, (0, 0), (fun _ => 0, 0, fun _ => 0), (0, -1), (x + 330, 16, 0, 0, fun _ => 0))
/-- its cells -/
def hirC (E : xE) (x o : Nat) : va_E := if o = 0 then hirE x 0 (-1) else if o < 28 then stoC E (x + 1) co0 (o - 1) else if o < 55 then stoC E (x + 28) co0 (o - 28) else if o < 82 then stoC E (x + 55) co0 (o - 55) else if o < 327 then pasC E (x + 82) 9 0 0 (fun _ => co0) (o - 82) else if o = 327 then txtE E (x + 327) (fun _ => 0) 0 else if o = 328 then sgnE E (fun _ => 0) else if o = 329 then sbdE (x + 330) 0 0 else .inl (E.1.2 7, 16, .inl (fun _ => 0))
theorem hirC_S {E : xE} {w : xW} {x b : Nat} {N : Nat} (h : ∀ o, o < 27 → hirC E x (b + o) = stoC E (x + b) co0 o) (hb : b + 27 ≤ N) : hasS E (pst w x N (hirC E x)) (x + b) co0 := fun o ho => by
  rw [Nat.add_assoc, pst_at (by omega), h o ho]
theorem hi_init {E : xE} {w : xW} {x : Nat} : HI E (pst w x 331 (hirC E x)) x (h9 x) := by
  refine ⟨⟨pst_at0 (by decide), (pst_at (o := 82) (by decide)).trans rfl, ?_, (by decide : (0 : Nat) < 9)⟩, ⟨hirC_S (b := 1) (fun o ho => ?_) (by decide), hirC_S (b := 28) (fun o ho => ?_) (by decide), hirC_S (b := 55) (fun o ho => ?_) (by decide), fun i hi => ?_⟩, ⟨(pst_at (o := 327) (by decide)).trans rfl, (pst_at (o := 328) (by decide)).trans rfl, (by decide : (0 : Nat) < 9)⟩, (pst_at (o := 329) (by decide)).trans rfl, (pst_at (o := 330) (by decide)).trans rfl, Nat.le_refl _, Nat.lt_succ_self _, Nat.le_succ _⟩
  · rw [show x + 82 + 1 = x + 83 by omega, pst_at (o := 83) (by decide)]
    rfl
  · unfold hirC
    rw [if_neg (by omega), if_pos (by omega), show 1 + o - 1 = o by omega]
  · unfold hirC
    rw [if_neg (by omega), if_neg (by omega), if_pos (by omega), show 28 + o - 28 = o by omega]
  · unfold hirC
    rw [if_neg (by omega), if_neg (by omega), if_neg (by omega), if_pos (by omega), show 55 + o - 55 = o by omega]
  · have h1 := hirC_S (E := E) (w := w) (x := x) (b := 84 + 27 * i) (N := 331) (fun o ho => by
      unfold hirC
      rw [if_neg (by omega), if_neg (by omega), if_neg (by omega), if_neg (by omega), if_pos (by omega), show 84 + 27 * i + o - 82 = 2 + 27 * i + o by omega, pasC_S ho, show x + 82 + 2 + 27 * i = x + (84 + 27 * i) by omega]) (by omega)
    rwa [show x + (84 + 27 * i) = x + 82 + 2 + 27 * i by omega] at h1
set_option maxRecDepth 100000 in
set_option maxHeartbeats 4000000 in
theorem ct_X9_init {E : xE} {Po : xPo} {w : xW} {x : Nat} (h2 : w.2 = x + 1) (hw : w.1 x = some (.inr (11, [.null, .null, .null, .null, .null, .null, .int 0, .int 0]))) (hp : Po (.inl none) (pst w x 331 (hirC E x))) : Ct M_X9_init E [.ref x] w Po := by
  refine Ct.of (ws2 := xAll) (L := [some (.ref x)]) (by decide +kernel) rfl rfl (List.forall_mem_cons.mpr ⟨rfl, fun _ h => absurd h List.not_mem_nil⟩) (Nat.le_of_ble_eq_true rfl) rfl ?_
  rw [pst_0 h2 hw]
  refine r_aload_n (q := 1) dX9_init_0 rfl rfl rfl ?_
  refine r_objInit (q := 4) dX9_init_1 o_X9_init (List.mem_cons_of_mem _ oi1) (List.mem_cons_of_mem _ oi2) (Nat.le_of_ble_eq_true rfl) (Nat.le_of_ble_eq_true rfl) (Nat.le_of_ble_eq_true rfl) rfl ?_
  refine r_aload_n (q := 5) dX9_init_4 rfl rfl rfl ?_
  refine r_new (q := 8) dX9_init_5 nw_X9_init_7 (Nat.le_of_ble_eq_true rfl) (Nat.le_of_ble_eq_true rfl) rfl ?_
  rw [pst_add, pst_2]
  refine r_dup (q := 9) dX9_init_8 rfl rfl ?_
  refine r_callI (q := 12) (As := []) dX9_init_9 s_X9_init_9 rfl (Nat.le_of_ble_eq_true rfl) rfl rfl rfl ⟨(Nat.le_of_ble_eq_true rfl), (Nat.le_of_ble_eq_true rfl)⟩ rfl ?_
  refine ct_X5_init rfl ((pst_at (o := 1) (by omega)).trans (congrArg some va_up_s)) ?_
  show WF _ E Po _ _ _ _ _ _ _
  rw [sto_pst, pst_pst (by decide)]
  refine r_putfieldF (q := 15) dX9_init_12 f_X9_init_10 rfl rfl (pst_at0 (by omega)) rfl rfl (by exact Nat.le_of_ble_eq_true rfl) rfl ?_
  rw [pst_set0 (by omega)]
  refine r_aload_n (q := 16) dX9_init_15 rfl rfl rfl ?_
  refine r_new (q := 19) dX9_init_16 nw_X9_init_7 (Nat.le_of_ble_eq_true rfl) (Nat.le_of_ble_eq_true rfl) rfl ?_
  rw [pst_add, pst_2]
  refine r_dup (q := 20) dX9_init_19 rfl rfl ?_
  refine r_callI (q := 23) (As := []) dX9_init_20 s_X9_init_9 rfl (Nat.le_of_ble_eq_true rfl) rfl rfl rfl ⟨(Nat.le_of_ble_eq_true rfl), (Nat.le_of_ble_eq_true rfl)⟩ rfl ?_
  refine ct_X5_init rfl ((pst_at (o := 28) (by omega)).trans (congrArg some va_up_s)) ?_
  show WF _ E Po _ _ _ _ _ _ _
  rw [sto_pst, pst_pst (by decide)]
  refine r_putfieldF (q := 26) dX9_init_23 f_X9_init_16 rfl rfl (pst_at0 (by omega)) rfl rfl (by exact Nat.le_of_ble_eq_true rfl) rfl ?_
  rw [pst_set0 (by omega)]
  refine r_aload_n (q := 27) dX9_init_26 rfl rfl rfl ?_
  refine r_new (q := 30) dX9_init_27 nw_X9_init_7 (Nat.le_of_ble_eq_true rfl) (Nat.le_of_ble_eq_true rfl) rfl ?_
  rw [pst_add, pst_2]
  refine r_dup (q := 31) dX9_init_30 rfl rfl ?_
  refine r_callI (q := 34) (As := []) dX9_init_31 s_X9_init_9 rfl (Nat.le_of_ble_eq_true rfl) rfl rfl rfl ⟨(Nat.le_of_ble_eq_true rfl), (Nat.le_of_ble_eq_true rfl)⟩ rfl ?_
  refine ct_X5_init rfl ((pst_at (o := 55) (by omega)).trans (congrArg some va_up_s)) ?_
  show WF _ E Po _ _ _ _ _ _ _
  rw [sto_pst, pst_pst (by decide)]
  refine r_putfieldF (q := 37) dX9_init_34 f_X9_init_19 rfl rfl (pst_at0 (by omega)) rfl rfl (by exact Nat.le_of_ble_eq_true rfl) rfl ?_
  rw [pst_set0 (by omega)]
  refine r_aload_n (q := 38) dX9_init_37 rfl rfl rfl ?_
  refine r_new (q := 41) dX9_init_38 nw_X9_init_22 (Nat.le_of_ble_eq_true rfl) (Nat.le_of_ble_eq_true rfl) rfl ?_
  rw [pst_add, pst_2]
  refine r_dup (q := 42) dX9_init_41 rfl rfl ?_
  refine r_callI (q := 45) (As := []) dX9_init_42 s_X9_init_24 rfl (Nat.le_of_ble_eq_true rfl) rfl rfl rfl ⟨(Nat.le_of_ble_eq_true rfl), (Nat.le_of_ble_eq_true rfl)⟩ rfl ?_
  refine ct_X3_init rfl ((pst_at (o := 82) (by omega)).trans (congrArg some va_up_s)) ?_
  show WF _ E Po _ _ _ _ _ _ _
  rw [pst_pst (by decide)]
  refine r_putfieldF (q := 48) dX9_init_45 f_X9_init_25 rfl rfl (pst_at0 (by omega)) rfl rfl (by exact Nat.le_of_ble_eq_true rfl) rfl ?_
  rw [pst_set0 (by omega)]
  refine r_aload_n (q := 49) dX9_init_48 rfl rfl rfl ?_
  refine r_new (q := 52) dX9_init_49 nw_X9_init_29 (Nat.le_of_ble_eq_true rfl) (Nat.le_of_ble_eq_true rfl) rfl ?_
  rw [pst_add, pst_2]
  refine r_dup (q := 53) dX9_init_52 rfl rfl ?_
  refine r_callIN (q := 56) (As := []) dX9_init_53 ns_X9_init_31 rfl (Nat.le_of_ble_eq_true rfl) rfl rfl rfl ⟨(Nat.le_of_ble_eq_true rfl), (Nat.le_of_ble_eq_true rfl)⟩ rfl ?_
  refine ct_X7_init rfl ((pst_at (o := 327) (by omega)).trans (congrArg some va_up_s)) ?_
  show WF _ E Po _ _ _ _ _ _ _
  rw [pst_pst (by decide)]
  refine r_putfieldF (q := 59) dX9_init_56 f_X9_init_32 rfl rfl (pst_at0 (by omega)) rfl rfl (by exact Nat.le_of_ble_eq_true rfl) rfl ?_
  rw [pst_set0 (by omega)]
  refine r_aload_n (q := 60) dX9_init_59 rfl rfl rfl ?_
  refine r_new (q := 63) dX9_init_60 nw_X9_init_36 (Nat.le_of_ble_eq_true rfl) (Nat.le_of_ble_eq_true rfl) rfl ?_
  rw [pst_add, pst_2]
  refine r_dup (q := 64) dX9_init_63 rfl rfl ?_
  refine r_callI (q := 67) (As := []) dX9_init_64 s_X9_init_38 rfl (Nat.le_of_ble_eq_true rfl) rfl rfl rfl ⟨(Nat.le_of_ble_eq_true rfl), (Nat.le_of_ble_eq_true rfl)⟩ rfl ?_
  refine ct_J4_init_da8c8 (by show x + 329 < x + (329 + 1); omega) ((pst_at (o := 329) (by omega)).trans (congrArg some va_up_s)) ?_
  show WF _ E Po _ _ _ _ _ _ _
  rw [pst_add, pst_2, pst_set (o := 329) (by omega)]
  refine r_putfieldF (q := 70) dX9_init_67 f_X9_init_39 rfl rfl (pst_at0 (by omega)) rfl rfl (by exact Nat.le_of_ble_eq_true rfl) rfl ?_
  rw [pst_set0 (by omega)]
  refine r_aload_n (q := 71) dX9_init_70 rfl rfl rfl ?_
  refine r_iconst (q := 72) (v := 0) dX9_init_71 rfl rfl ?_
  refine r_putfield (q := 75) dX9_init_72 f_X9_init_43 (pst_at0 (by omega)) rfl rfl (by exact Nat.le_of_ble_eq_true rfl) rfl ?_
  rw [pst_set0 (by omega)]
  refine r_aload_n (q := 76) dX9_init_75 rfl rfl rfl ?_
  refine r_iconst (q := 77) (v := (-1)) dX9_init_76 rfl rfl ?_
  refine r_putfield (q := 80) dX9_init_77 f_X9_init_47 (pst_at0 (by omega)) rfl rfl (by exact Nat.le_of_ble_eq_true rfl) rfl ?_
  rw [pst_set0 (by omega)]
  refine r_vret dX9_init_80 rfl (Nat.le_of_ble_eq_true rfl) (Nat.le_of_ble_eq_true rfl) ?_
  rw [pst_congr (g := hirC E x) (fun o ho => ?_)]
  · exact hp
  · unfold hirC
    by_cases e0 : o = 0
    · subst e0; rfl
    · simp only [va_up_o e0, if_neg e0]
      by_cases e1 : o < 28
      · rw [if_pos e1]
        simp only [va_up, pap]
        (repeat' split) <;> first | rfl | (exfalso; omega)
      · rw [if_neg e1]
        by_cases e2 : o < 55
        · rw [if_pos e2]
          simp only [va_up, pap]
          (repeat' split) <;> first | rfl | (exfalso; omega)
        · rw [if_neg e2]
          by_cases e3 : o < 82
          · rw [if_pos e3]
            simp only [va_up, pap]
            (repeat' split) <;> first | rfl | (exfalso; omega)
          · rw [if_neg e3]
            by_cases e4 : o < 327
            · rw [if_pos e4]
              simp only [va_up, pap]
              (repeat' split) <;> first | rfl | (exfalso; omega)
            · rw [if_neg e4]
              rcases (show o = 327 ∨ o = 328 ∨ o = 329 ∨ o = 330 by omega) with rfl | rfl | rfl | rfl <;> rfl
