/-! ===== 24.consts: statics, constants, texts (rows laid by wip/p39/gen/make24.py) ===== -/
section XCONST
variable {M M2 : xM} {E : xE} {Po : xPo} {w0 w : xW} {pc q : Nat} {L : List (Option Value)} {st rest : List Value} {k n k2 n2 : Nat}
theorem r_gets {C nm d : String} {idx : Nat} {v : Value} (hd : decode (mC M) pc = .ok (.getstatic idx, 3)) (hl : Cond.fieldLink (mY M).cls idx C nm d ∈ mW M) (hZ : ∀ A U H, xC E A U H → va_Z C nm d v A U H) (hq : pc + 3 = q)
    (kk : WF M E Po w0 q L (v :: st) w k n) : WF M E Po w0 pc L st w k n := by
  subst hq
  intro p l e s m args below meth c H locs ls C hP hs hS hl9
  obtain ⟨c1, c2, c3, c4, c5, c6, c7, c8, c9, c10, c11, c12⟩ := id C
  exact va_gets c1 c2 (hZ _ _ _ c11.2) hS c6 (c5 _ hl) (fun _ h => h) hd (kk p l e s m args below meth c H locs ls C hP hs hS hl9)
theorem r_getsN {C nm d host : String} {idx : Nat} {v : Value} (hd : decode (mC M) pc = .ok (.getstatic idx, 3)) (hl : ∀ U, xU U → va_Nw (.fieldLinkNest (mY M).cls idx C nm d host) U) (hZ : ∀ A U H, xC E A U H → va_Z C nm d v A U H) (hq : pc + 3 = q)
    (kk : WF M E Po w0 q L (v :: st) w k n) : WF M E Po w0 pc L st w k n := by
  subst hq
  intro p l e s m args below meth c H locs ls C hP hs hS hl9
  obtain ⟨c1, c2, c3, c4, c5, c6, c7, c8, c9, c10, c11, c12⟩ := id C
  exact va_getsN c1 c2 (hZ _ _ _ c11.2) hS c6 (va_tabs rfl rfl (hl _ c11.2.2.2.2.2.2.2.2.1)) (fun _ h => h) hd (kk p l e s m args below meth c H locs ls C hP hs hS hl9)
/-- a constant's field -/
theorem r_getk {C nm d : String} {idx b : Nat} {v : Value} (hd : decode (mC M) pc = .ok (.getfield idx, 3)) (hl : Cond.fieldLink (mY M).cls idx C nm d ∈ mW M) (hZ : ∀ A U H, xC E A U H → va_OF C nm d v b A U H) (hq : pc + 3 = q)
    (kk : WF M E Po w0 q L (v :: st) w k n) : WF M E Po w0 pc L (.ref b :: st) w k n := by
  subst hq
  intro p l e s m args below meth c H locs ls C hP hs hS hl9
  obtain ⟨c1, c2, c3, c4, c5, c6, c7, c8, c9, c10, c11, c12⟩ := id C
  exact vk_getf c1 c2 (hZ _ _ _ c11.2) hS c6 (c5 _ hl) (fun _ h => h) hd (kk p l e s m args below meth c H locs ls C hP hs hS hl9)
theorem r_ldcS {idx i : Nat} {tx : String} (hd : decode (mC M) pc = .ok (.ldc idx, 2)) (hi : xStr[i]? = some ((mY M).cls, idx, tx)) (hq : pc + 2 = q)
    (kk : WF M E Po w0 q L (.ref (E.2.1.1 i) :: st) w k n) : WF M E Po w0 pc L st w k n := by
  subst hq
  intro p l e s m args below meth c H locs ls C hP hs hS hl9
  obtain ⟨c1, c2, c3, c4, c5, c6, c7, c8, c9, c10, c11, c12⟩ := id C
  exact va_ldcS c1 c2 c6 (c11.2.2.1 i _ hi) hd (kk p l e s m args below meth c H locs ls C hP hs hS hl9)
/-- tables -/
theorem r_tlen {t N : Nat} {ty : FieldType} {f : Nat → Value} (hd : decode (mC M) pc = .ok (.arraylength, 1)) (hT : ∀ A U H, xC E A U H → va_T ty t N f A U H) (hq : pc + 1 = q)
    (kk : WF M E Po w0 q L (.int (Int32.ofNat N) :: st) w k n) : WF M E Po w0 pc L (.ref t :: st) w k n := by
  subst hq
  intro p l e s m args below meth c H locs ls C hP hs hS hl9
  obtain ⟨c1, c2, c3, c4, c5, c6, c7, c8, c9, c10, c11, c12⟩ := id C
  exact va_tlen c1 c2 (hT _ _ _ c11.2) hS rfl hd (kk p l e s m args below meth c H locs ls C hP hs hS hl9)
theorem r_tb {t N : Nat} {f : Nat → Value} {i : Int32} (hd : decode (mC M) pc = .ok (.baload, 1)) (hT : ∀ A U H, xC E A U H → va_T .byte t N f A U H) (hin : vp_in i N) (hq : pc + 1 = q)
    (kk : WF M E Po w0 q L (f i.toNatClampNeg :: st) w k n) : WF M E Po w0 pc L (.int i :: .ref t :: st) w k n := by
  subst hq
  intro p l e s m args below meth c H locs ls C hP hs hS hl9
  obtain ⟨c1, c2, c3, c4, c5, c6, c7, c8, c9, c10, c11, c12⟩ := id C
  exact va_tb c1 c2 (hT _ _ _ c11.2) hS hin rfl hd (kk p l e s m args below meth c H locs ls C hP hs hS hl9)
theorem r_ti {t N : Nat} {f : Nat → Value} {i : Int32} (hd : decode (mC M) pc = .ok (.iaload, 1)) (hT : ∀ A U H, xC E A U H → va_T .int t N f A U H) (hin : vp_in i N) (hq : pc + 1 = q)
    (kk : WF M E Po w0 q L (f i.toNatClampNeg :: st) w k n) : WF M E Po w0 pc L (.int i :: .ref t :: st) w k n := by
  subst hq
  intro p l e s m args below meth c H locs ls C hP hs hS hl9
  obtain ⟨c1, c2, c3, c4, c5, c6, c7, c8, c9, c10, c11, c12⟩ := id C
  exact va_ti c1 c2 (hT _ _ _ c11.2) hS hin rfl hd (kk p l e s m args below meth c H locs ls C hP hs hS hl9)
theorem r_tq {t N : Nat} {C : String} {f : Nat → Value} {i : Int32} (hd : decode (mC M) pc = .ok (.aaload, 1)) (hT : ∀ A U H, xC E A U H → va_T (.object C) t N f A U H) (hin : vp_in i N) (hq : pc + 1 = q)
    (kk : WF M E Po w0 q L (f i.toNatClampNeg :: st) w k n) : WF M E Po w0 pc L (.int i :: .ref t :: st) w k n := by
  subst hq
  intro p l e s m args below meth c H locs ls C hP hs hS hl9
  obtain ⟨c1, c2, c3, c4, c5, c6, c7, c8, c9, c10, c11, c12⟩ := id C
  exact vb_tq c1 c2 (hT _ _ _ c11.2) hS hin rfl hd (kk p l e s m args below meth c H locs ls C hP hs hS hl9)
/-- a call on a constant -/
theorem r_callK {idx nn b : Nat} {As : List Value} (hd : decode (mC M) pc = .ok (.invokevirtual idx, 3)) (sv : xSv M M2 idx nn) (hO : ∀ A U H, xC E A U H → va_O (mY M2).cls b A U H) (hH : mH M = []) (hn : As.length = nn) (hrm : (rest.map fun v => v.category).sum ≤ 8) (hq : pc + 3 = q)
    (hk : k + mK M2 = k2) (hn2 : n + mN M2 = n2) (hK : k2 ≤ mK M) (hN : n2 ≤ mN M) (hR : k2 ≤ (mR M).cells ∧ n2 ≤ (mR M).slots) (hst : As.reverse ++ .ref b :: rest = st)
    (hct : Ct M2 E (.ref b :: As) w (xNext M E Po w0 q L rest k2 n2)) : WF M E Po w0 pc L st w k n := by
  subst hq; subst hk; subst hn2; subst hst
  intro p l e s m args below meth c H locs ls C hP hs hS hl
  obtain ⟨hA, hpre⟩ := xPc_at (as := .ref b :: As) C hP hs hS
  obtain ⟨c1, c2, c3, c4, c5, c6, c7, c8, c9, c10, c11, c12⟩ := id C
  have hrecv : ∃ cellB : Cell, H[b]? = some cellB ∧ cellB.vm.isStatics = false ∧ s.vm.findClass (mY M2).cls = some cellB.cls := by
    obtain ⟨cell, h1, h2, h3, -⟩ := (hO _ _ _ c11.2).kept hS.2.1
    exact ⟨cell, h1, h2, h3⟩
  refine x_call (vx_runV (n := nn) (As := As) (rest := rest) ⟨c1, c2, c4, c6, c5⟩ (hct l c8) (sv s args c5) ⟨xPc_blind, hrecv, fun U hU hW => hpre U hU hW⟩ rfl hn hl.1 rfl (lv_room hrm) hd hR) hS hA (fun X ce q9 u H1 locs1 hp hP1 hsub hS1 h1 h2 h3 => ?_) (fun v u H1 locs1 hp hP1 hsub hS1 => ?_)
  · exact x_out hH C hK hN hp hP1 (fun q h => hA q (hsub q h)) hS1 h1 h2 h3
  · exact hp p l e s m args below meth c H1 locs1 ls C hP1 (fun q h => hA q (hsub q h)) hS1 hl
theorem r_getsq {C nm d : String} {idx : Nat} (hd : decode (mC M) pc = .ok (.getstatic idx, 3)) (hl : Cond.fieldLink (mY M).cls idx C nm d ∈ mW M) (hZ : ∀ A U H, xC E A U H → va_Zq C nm d A U H) (hq : pc + 3 = q)
    (kk : ∀ v : Value, v = .null ∨ (∃ t, v = .ref t) → WF M E Po w0 q L (v :: st) w k n) : WF M E Po w0 pc L st w k n := by
  subst hq
  intro p l e s m args below meth c H locs ls C hP hs hS hl9
  obtain ⟨c1, c2, c3, c4, c5, c6, c7, c8, c9, c10, c11, c12⟩ := id C
  rcases hZ _ _ _ c11.2 with h | ⟨t, h⟩
  · exact va_gets c1 c2 h hS c6 (c5 _ hl) (fun _ h => h) hd (kk _ (Or.inl rfl) p l e s m args below meth c H locs ls C hP hs hS hl9)
  · exact va_gets c1 c2 h hS c6 (c5 _ hl) (fun _ h => h) hd (kk _ (Or.inr ⟨t, rfl⟩) p l e s m args below meth c H locs ls C hP hs hS hl9)
end XCONST
/-- the constants' places -/
def kS (E : xE) (i : Nat) : Nat := E.2.1.1 i
def kV (E : xE) (i : Nat) : Nat := E.2.1.2.1 i
def kE (E : xE) (i : Nat) : Nat := E.2.1.2.2 i
theorem k_cs {E : xE} : ∀ A U H, xC E A U H → va_Z "java/lang/String" "COMPACT_STRINGS" "Z" (.int 1) A U H := fun A U H h => h.2.2.2.2.2.2.2.2.1
theorem k_sio {E : xE} : ∀ A U H, xC E A U H → va_Zq "jdk/internal/util/Preconditions" "SIOOBE_FORMATTER" "Ljava/util/function/BiFunction;" A U H := fun A U H h => h.2.2.2.2.2.2.2.2.2.2.2
theorem k_so {E : xE} {i : Nat} (hi : i < 54) : ∀ A U H, xC E A U H → va_O "java/lang/String" (kS E i) A U H := fun A U H h => (h.2.2.1.1 i hi).1
theorem k_sc {E : xE} {i : Nat} (hi : i < 54) : ∀ A U H, xC E A U H → va_OF "java/lang/String" "coder" "B" (.int 0) (kS E i) A U H := fun A U H h => (h.2.2.1.1 i hi).2.1
theorem k_sv {E : xE} {i : Nat} (hi : i < 54) : ∀ A U H, xC E A U H → va_OF "java/lang/String" "value" "[B" (.ref (kV E i)) (kS E i) A U H := fun A U H h => (h.2.2.1.1 i hi).2.2.1
theorem k_sb {E : xE} {i : Nat} (hi : i < 54) : ∀ A U H, xC E A U H → va_T .byte (kV E i) (xLen.getD i 0) (fun j => .int ((xByt.getD i []).getD j 0)) A U H := fun A U H h => (h.2.2.1.1 i hi).2.2.2
theorem k_cmd {E : xE} {i : Nat} (hi : i < 9) : ∀ A U H, xC E A U H → va_Z "TubHire$Command" (xCmd.getD i "") "LTubHire$Command;" (.ref (kE E i)) A U H := fun A U H h => (h.2.2.2.1.1.1 i hi).1
theorem k_cmo {E : xE} {i : Nat} (hi : i < 9) : ∀ A U H, xC E A U H → va_O "TubHire$Command" (kE E i) A U H := fun A U H h => (h.2.2.2.1.1.1 i hi).2.1
theorem k_ord {E : xE} {i : Nat} (hi : i < 9) : ∀ A U H, xC E A U H → va_OF "java/lang/Enum" "ordinal" "I" (.int (([0, 1, 2, 3, 4, 5, 6, 7, 8] : List Int32).getD i 0)) (kE E i) A U H := fun A U H h => (h.2.2.2.1.1.1 i hi).2.2 _ (List.mem_cons_self ..)
theorem k_dig {E : xE} {i : Nat} (hi : i < 9) : ∀ A U H, xC E A U H → va_OF "TubHire$Command" "digits" "I" (.int (([2, 1, 2, 1, 1, 2, 0, 0, 0] : List Int32).getD i 0)) (kE E i) A U H := fun A U H h => (h.2.2.2.1.1.1 i hi).2.2 _ (List.mem_cons_of_mem _ (List.mem_cons_self ..))
theorem k_wrd {E : xE} {i : Nat} (hi : i < 9) : ∀ A U H, xC E A U H → va_OF "TubHire$Command" "word" "Ljava/lang/String;" (.ref (kS E (xWrd.getD i 0))) (kE E i) A U H := fun A U H h => h.2.2.2.1.2 i hi
theorem k_allZ {E : xE} : ∀ A U H, xC E A U H → va_Z "TubHire$Command" "ALL" "[LTubHire$Command;" (.ref (kE E 100)) A U H := fun A U H h => h.2.2.2.2.1.1
theorem k_all {E : xE} : ∀ A U H, xC E A U H → va_T (.object "TubHire$Command") (kE E 100) 9 (fun k => .ref (kE E k)) A U H := fun A U H h => h.2.2.2.2.1.2
theorem k_swZ {E : xE} : ∀ A U H, xC E A U H → va_Z "TubHire$1" "$SwitchMap$TubHire$Command" "[I" (.ref (kE E 101)) A U H := fun A U H h => h.2.2.2.2.2.1.1
theorem k_sw {E : xE} : ∀ A U H, xC E A U H → va_T .int (kE E 101) 9 (fun k => .int (xSwt.getD k 0)) A U H := fun A U H h => h.2.2.2.2.2.1.2
theorem k_len : ∀ i, i < 54 → (xLen.getD i 0 = (xByt.getD i []).length ∧ xLen.getD i 0 < 60 ∧ ∀ b ∈ xByt.getD i [], ((b &&& 255).toUInt32 % 65536).toInt32 = b ∧ narrow .char (.int b) = .int b) := by decide +kernel
theorem k_byt {i j : Nat} (hi : i < 54) (hj : j < xLen.getD i 0) : ((((xByt.getD i []).getD j 0) &&& 255).toUInt32 % 65536).toInt32 = (xByt.getD i []).getD j 0 ∧ narrow .char (.int ((xByt.getD i []).getD j 0)) = .int ((xByt.getD i []).getD j 0) := by
  obtain ⟨h1, -, h3⟩ := k_len i hi
  rw [h1] at hj
  rw [List.getD_eq_getElem?_getD, List.getElem?_eq_getElem hj, Option.getD_some]
  exact h3 _ (List.getElem_mem hj)
theorem v46 : (Jvm.Cond.fieldLink "java/lang/String" (9 : Nat) "java/lang/String" "value" "[B") ∈ xAll := xin5 (List.mem_of_getElem? (i := 131) (by decide +kernel)) (by decide +kernel)
theorem g_J0_length_8abf5_9 : Cond.fieldLink (mY M_J0_length_8abf5).cls 9 "java/lang/String" "value" "[B" ∈ mW M_J0_length_8abf5 := List.mem_cons_of_mem _ v46
theorem v47 : (Jvm.Cond.fieldLink "java/lang/String" (38 : Nat) "java/lang/String" "COMPACT_STRINGS" "Z") ∈ xAll := xin5 (List.mem_of_getElem? (i := 55) (by decide +kernel)) (by decide +kernel)
theorem g_J0_coder_7d493_38 : Cond.fieldLink (mY M_J0_coder_7d493).cls 38 "java/lang/String" "COMPACT_STRINGS" "Z" ∈ mW M_J0_coder_7d493 := List.mem_cons_of_mem _ v47
theorem v48 : (Jvm.Cond.fieldLink "java/lang/String" (15 : Nat) "java/lang/String" "coder" "B") ∈ xAll := xin5 (List.mem_of_getElem? (i := 132) (by decide +kernel)) (by decide +kernel)
theorem g_J0_coder_7d493_15 : Cond.fieldLink (mY M_J0_coder_7d493).cls 15 "java/lang/String" "coder" "B" ∈ mW M_J0_coder_7d493 := List.mem_cons_of_mem _ v48
theorem g_J0_charAt_5068e_9 : Cond.fieldLink (mY M_J0_charAt_5068e).cls 9 "java/lang/String" "value" "[B" ∈ mW M_J0_charAt_5068e := List.mem_cons_of_mem _ v46
theorem g_J0_isLatin1_aae02_38 : Cond.fieldLink (mY M_J0_isLatin1_aae02).cls 38 "java/lang/String" "COMPACT_STRINGS" "Z" ∈ mW M_J0_isLatin1_aae02 := List.mem_cons_of_mem _ v47
theorem g_J0_isLatin1_aae02_15 : Cond.fieldLink (mY M_J0_isLatin1_aae02).cls 15 "java/lang/String" "coder" "B" ∈ mW M_J0_isLatin1_aae02 := List.mem_cons_of_mem _ v48
theorem v49 : (Jvm.Cond.fieldLink "java/lang/String" (1053 : Nat) "jdk/internal/util/Preconditions" "SIOOBE_FORMATTER" "Ljava/util/function/BiFunction;") ∈ xAll := xin4 (List.mem_of_getElem? (i := 212) (by decide +kernel)) (by decide +kernel)
theorem g_J0_checkIndex_df160_1053 : Cond.fieldLink (mY M_J0_checkIndex_df160).cls 1053 "jdk/internal/util/Preconditions" "SIOOBE_FORMATTER" "Ljava/util/function/BiFunction;" ∈ mW M_J0_checkIndex_df160 := List.mem_cons_of_mem _ v49
theorem v50 : (Jvm.Cond.fieldLink "TubHire$Text" (20 : Nat) "TubHire$Command" "OUT" "LTubHire$Command;") ∈ xAll := xin1 (List.mem_of_getElem? (i := 234) (by decide +kernel)) (by decide +kernel)
theorem g_X7_init_20 : Cond.fieldLink (mY M_X7_init).cls 20 "TubHire$Command" "OUT" "LTubHire$Command;" ∈ mW M_X7_init := List.mem_cons_of_mem _ v50
theorem v51 : (Jvm.Cond.fieldLink "TubHire$Text" (57 : Nat) "TubHire$Command" "word" "Ljava/lang/String;") ∈ xAll := xin6 (List.mem_of_getElem? (i := 237) (by decide +kernel)) (by decide +kernel)
theorem g_X7_readsWord_57 : Cond.fieldLink (mY M_X7_readsWord).cls 57 "TubHire$Command" "word" "Ljava/lang/String;" ∈ mW M_X7_readsWord := List.mem_cons_of_mem _ v51
theorem v52 : (Jvm.Cond.fieldLink "TubHire$Text" (50 : Nat) "TubHire$Command" "digits" "I") ∈ xAll := xin6 (List.mem_of_getElem? (i := 238) (by decide +kernel)) (by decide +kernel)
theorem g_X7_readsCommand_50 : Cond.fieldLink (mY M_X7_readsCommand).cls 50 "TubHire$Command" "digits" "I" ∈ mW M_X7_readsCommand := List.mem_cons_of_mem _ v52
theorem x_sh0 (x : Int32) : x >>> ((0 : Int32) &&& 31) = x := by
  rw [show (0 : Int32) &&& 31 = 0 by decide]
  exact Int32.shiftRight_zero
set_option maxRecDepth 100000 in
set_option maxHeartbeats 4000000 in
theorem ct_J0_coder_7d493 {E : xE} {Po : xPo} {w : xW} {i : Nat} (hi : i < 54) (hp : Po (.inl (some (.int 0))) w) : Ct M_J0_coder_7d493 E [.ref (kS E i)] w Po := by
  refine Ct.of (ws2 := xAll) (L := [some (.ref (kS E i))]) (by decide +kernel) rfl rfl (List.forall_mem_cons.mpr ⟨rfl, fun _ h => absurd h List.not_mem_nil⟩) (Nat.le_of_ble_eq_true rfl) rfl ?_
  refine r_gets dJ0_coder_7d493_0 g_J0_coder_7d493_38 (k_cs) rfl ?_
  refine r_if_eq (q := 13) (q2 := 6) dJ0_coder_7d493_3 (by decide) rfl (fun h9 => absurd h9 (by decide)) (fun _ => ?_)
  refine r_aload_n (q := 7) dJ0_coder_7d493_6 rfl rfl rfl ?_
  refine r_getk dJ0_coder_7d493_7 g_J0_coder_7d493_15 (k_sc hi) rfl ?_
  refine r_goto (q := 14) dJ0_coder_7d493_10 (by decide) ?_
  refine r_zret dJ0_coder_7d493_14 rfl (by decide) (Nat.le_of_ble_eq_true rfl) (Nat.le_of_ble_eq_true rfl) ?_
  exact hp
set_option maxRecDepth 100000 in
set_option maxHeartbeats 4000000 in
theorem ct_J0_isLatin1_aae02 {E : xE} {Po : xPo} {w : xW} {i : Nat} (hi : i < 54) (hp : Po (.inl (some (.int 1))) w) : Ct M_J0_isLatin1_aae02 E [.ref (kS E i)] w Po := by
  refine Ct.of (ws2 := xAll) (L := [some (.ref (kS E i))]) (by decide +kernel) rfl rfl (List.forall_mem_cons.mpr ⟨rfl, fun _ h => absurd h List.not_mem_nil⟩) (Nat.le_of_ble_eq_true rfl) rfl ?_
  refine r_gets dJ0_isLatin1_aae02_0 g_J0_isLatin1_aae02_38 (k_cs) rfl ?_
  refine r_if_eq (q := 17) (q2 := 6) dJ0_isLatin1_aae02_3 (by decide) rfl (fun h9 => absurd h9 (by decide)) (fun _ => ?_)
  refine r_aload_n (q := 7) dJ0_isLatin1_aae02_6 rfl rfl rfl ?_
  refine r_getk dJ0_isLatin1_aae02_7 g_J0_isLatin1_aae02_15 (k_sc hi) rfl ?_
  refine r_if_ne (q := 17) (q2 := 13) dJ0_isLatin1_aae02_10 (by decide) rfl (fun h9 => absurd rfl h9) (fun _ => ?_)
  refine r_iconst (q := 14) (v := 1) dJ0_isLatin1_aae02_13 rfl rfl ?_
  refine r_goto (q := 18) dJ0_isLatin1_aae02_14 (by decide) ?_
  refine r_zret dJ0_isLatin1_aae02_18 rfl (by decide) (Nat.le_of_ble_eq_true rfl) (Nat.le_of_ble_eq_true rfl) ?_
  exact hp
set_option maxRecDepth 100000 in
set_option maxHeartbeats 4000000 in
theorem ct_J0_length_8abf5 {E : xE} {Po : xPo} {w : xW} {i : Nat} (hi : i < 54) (hp : Po (.inl (some (.int (nI (xLen.getD i 0))))) w) : Ct M_J0_length_8abf5 E [.ref (kS E i)] w Po := by
  refine Ct.of (ws2 := xAll) (L := [some (.ref (kS E i))]) (by decide +kernel) rfl rfl (List.forall_mem_cons.mpr ⟨rfl, fun _ h => absurd h List.not_mem_nil⟩) (Nat.le_of_ble_eq_true rfl) rfl ?_
  refine r_aload_n (q := 1) dJ0_length_8abf5_0 rfl rfl rfl ?_
  refine r_getk dJ0_length_8abf5_1 g_J0_length_8abf5_9 (k_sv hi) rfl ?_
  refine r_tlen dJ0_length_8abf5_4 (k_sb hi) rfl ?_
  refine r_aload_n (q := 6) dJ0_length_8abf5_5 rfl rfl rfl ?_
  refine r_callK (q := 9) (As := []) dJ0_length_8abf5_6 s_J0_length_8abf5_335 (k_so hi) rfl rfl (Nat.le_of_ble_eq_true rfl) rfl rfl rfl (Nat.le_of_ble_eq_true rfl) (Nat.le_of_ble_eq_true rfl) ⟨(Nat.le_of_ble_eq_true rfl), (Nat.le_of_ble_eq_true rfl)⟩ rfl ?_
  refine ct_J0_coder_7d493 hi ?_
  show WF _ E Po _ _ _ _ _ _ _
  refine r_ishr (q := 10) dJ0_length_8abf5_9 rfl ?_
  refine r_iret dJ0_length_8abf5_10 rfl (Nat.le_of_ble_eq_true rfl) (Nat.le_of_ble_eq_true rfl) ?_
  rw [show Int32.ofNat (xLen.getD i 0) >>> ((0 : Int32) &&& 31) = nI (xLen.getD i 0) from x_sh0 _]
  exact hp
set_option maxRecDepth 100000 in
set_option maxHeartbeats 4000000 in
theorem ct_J3_checkIndexN {E : xE} {Po : xPo} {w : xW} {i n : Int32} (h0 : ¬ i < 0) (h1 : i < n) (hp : Po (.inl (some (.int i))) w) : Ct M_J3_checkIndex_8e157 E [.int i, .int n, .null] w Po := by
  refine Ct.of (ws2 := xAll) (L := [some (.int i), some (.int n), some (.null)]) (by decide +kernel) rfl rfl (List.forall_mem_cons.mpr ⟨rfl, List.forall_mem_cons.mpr ⟨rfl, List.forall_mem_cons.mpr ⟨rfl, fun _ h => absurd h List.not_mem_nil⟩⟩⟩) (Nat.le_of_ble_eq_true rfl) rfl ?_
  refine r_iload_n (q := 1) dJ3_checkIndex_8e157_0 rfl rfl rfl ?_
  refine r_if_lt (q := 9) (q2 := 4) dJ3_checkIndex_8e157_1 (by decide) rfl (fun h9 => absurd h9 h0) (fun _ => ?_)
  refine r_iload_n (q := 5) dJ3_checkIndex_8e157_4 rfl rfl rfl ?_
  refine r_iload_n (q := 6) dJ3_checkIndex_8e157_5 rfl rfl rfl ?_
  refine r_icmp_lt (q := 16) (q2 := 9) dJ3_checkIndex_8e157_6 (by decide) rfl (fun _ => ?_) (fun h9 => absurd h1 h9)
  refine r_iload_n (q := 17) dJ3_checkIndex_8e157_16 rfl rfl rfl ?_
  refine r_iret dJ3_checkIndex_8e157_17 rfl (Nat.le_of_ble_eq_true rfl) (Nat.le_of_ble_eq_true rfl) ?_
  exact hp
set_option maxRecDepth 100000 in
set_option maxHeartbeats 4000000 in
theorem ct_J3_checkIndexR {E : xE} {Po : xPo} {w : xW} {t : Nat} {i n : Int32} (h0 : ¬ i < 0) (h1 : i < n) (hp : Po (.inl (some (.int i))) w) : Ct M_J3_checkIndex_8e157 E [.int i, .int n, .ref t] w Po := by
  refine Ct.of (ws2 := xAll) (L := [some (.int i), some (.int n), some (.ref t)]) (by decide +kernel) rfl rfl (List.forall_mem_cons.mpr ⟨rfl, List.forall_mem_cons.mpr ⟨rfl, List.forall_mem_cons.mpr ⟨rfl, fun _ h => absurd h List.not_mem_nil⟩⟩⟩) (Nat.le_of_ble_eq_true rfl) rfl ?_
  refine r_iload_n (q := 1) dJ3_checkIndex_8e157_0 rfl rfl rfl ?_
  refine r_if_lt (q := 9) (q2 := 4) dJ3_checkIndex_8e157_1 (by decide) rfl (fun h9 => absurd h9 h0) (fun _ => ?_)
  refine r_iload_n (q := 5) dJ3_checkIndex_8e157_4 rfl rfl rfl ?_
  refine r_iload_n (q := 6) dJ3_checkIndex_8e157_5 rfl rfl rfl ?_
  refine r_icmp_lt (q := 16) (q2 := 9) dJ3_checkIndex_8e157_6 (by decide) rfl (fun _ => ?_) (fun h9 => absurd h1 h9)
  refine r_iload_n (q := 17) dJ3_checkIndex_8e157_16 rfl rfl rfl ?_
  refine r_iret dJ3_checkIndex_8e157_17 rfl (Nat.le_of_ble_eq_true rfl) (Nat.le_of_ble_eq_true rfl) ?_
  exact hp
set_option maxRecDepth 100000 in
set_option maxHeartbeats 4000000 in
theorem ct_J0_checkIndex_df160 {E : xE} {Po : xPo} {w : xW} {i n : Int32} (h0 : ¬ i < 0) (h1 : i < n) (hp : Po (.inl none) w) : Ct M_J0_checkIndex_df160 E [.int i, .int n] w Po := by
  refine Ct.of (ws2 := xAll) (L := [some (.int i), some (.int n)]) (by decide +kernel) rfl rfl (List.forall_mem_cons.mpr ⟨rfl, List.forall_mem_cons.mpr ⟨rfl, fun _ h => absurd h List.not_mem_nil⟩⟩) (Nat.le_of_ble_eq_true rfl) rfl ?_
  refine r_iload_n (q := 1) dJ0_checkIndex_df160_0 rfl rfl rfl ?_
  refine r_iload_n (q := 2) dJ0_checkIndex_df160_1 rfl rfl rfl ?_
  refine r_getsq (q := 5) dJ0_checkIndex_df160_2 g_J0_checkIndex_df160_1053 k_sio rfl (fun v hv => ?_)
  rcases hv with rfl | ⟨t, rfl⟩
  · refine r_callS (q := 8) (As := [_, _, _]) dJ0_checkIndex_df160_5 s_J0_checkIndex_df160_1059 rfl rfl (Nat.le_of_ble_eq_true rfl) rfl rfl rfl (Nat.le_of_ble_eq_true rfl) (Nat.le_of_ble_eq_true rfl) ⟨(Nat.le_of_ble_eq_true rfl), (Nat.le_of_ble_eq_true rfl)⟩ rfl ?_
    first | refine ct_J3_checkIndexN h0 h1 ?_ | refine ct_J3_checkIndexR h0 h1 ?_
    show WF _ E Po _ _ _ _ _ _ _
    refine r_pop (q := 9) dJ0_checkIndex_df160_8 rfl rfl ?_
    refine r_vret dJ0_checkIndex_df160_9 rfl (Nat.le_of_ble_eq_true rfl) (Nat.le_of_ble_eq_true rfl) ?_
    exact hp
  · refine r_callS (q := 8) (As := [_, _, _]) dJ0_checkIndex_df160_5 s_J0_checkIndex_df160_1059 rfl rfl (Nat.le_of_ble_eq_true rfl) rfl rfl rfl (Nat.le_of_ble_eq_true rfl) (Nat.le_of_ble_eq_true rfl) ⟨(Nat.le_of_ble_eq_true rfl), (Nat.le_of_ble_eq_true rfl)⟩ rfl ?_
    first | refine ct_J3_checkIndexN h0 h1 ?_ | refine ct_J3_checkIndexR h0 h1 ?_
    show WF _ E Po _ _ _ _ _ _ _
    refine r_pop (q := 9) dJ0_checkIndex_df160_8 rfl rfl ?_
    refine r_vret dJ0_checkIndex_df160_9 rfl (Nat.le_of_ble_eq_true rfl) (Nat.le_of_ble_eq_true rfl) ?_
    exact hp
set_option maxRecDepth 100000 in
set_option maxHeartbeats 4000000 in
theorem ct_J1_charAt_3b067 {E : xE} {Po : xPo} {w : xW} {i j : Nat} (hi : i < 54) (hj : j < xLen.getD i 0) (hp : Po (.inl (some (.int ((xByt.getD i []).getD j 0)))) w) : Ct M_J1_charAt_3b067 E [.ref (kV E i), .int (nI j)] w Po := by
  refine Ct.of (ws2 := xAll) (L := [some (.ref (kV E i)), some (.int (nI j))]) (by decide +kernel) rfl rfl (List.forall_mem_cons.mpr ⟨rfl, List.forall_mem_cons.mpr ⟨rfl, fun _ h => absurd h List.not_mem_nil⟩⟩) (Nat.le_of_ble_eq_true rfl) rfl ?_
  have hL := (k_len i hi).2.1
  refine r_iload_n (q := 1) dJ1_charAt_3b067_0 rfl rfl rfl ?_
  refine r_aload_n (q := 2) dJ1_charAt_3b067_1 rfl rfl rfl ?_
  refine r_tlen dJ1_charAt_3b067_2 (k_sb hi) rfl ?_
  refine r_callS (q := 6) (As := [_, _]) dJ1_charAt_3b067_3 s_J1_charAt_3b067_9 rfl rfl (Nat.le_of_ble_eq_true rfl) rfl rfl rfl (Nat.le_of_ble_eq_true rfl) (Nat.le_of_ble_eq_true rfl) ⟨(Nat.le_of_ble_eq_true rfl), (Nat.le_of_ble_eq_true rfl)⟩ rfl ?_
  refine ct_J0_checkIndex_df160 (nI_pos (by omega)) (nI_lt hj (by omega)) ?_
  show WF _ E Po _ _ _ _ _ _ _
  refine r_aload_n (q := 7) dJ1_charAt_3b067_6 rfl rfl rfl ?_
  refine r_iload_n (q := 8) dJ1_charAt_3b067_7 rfl rfl rfl ?_
  refine r_tb dJ1_charAt_3b067_8 (k_sb hi) (vp_in_nI hj (by omega)) rfl ?_
  rw [nI_cl (by omega)]
  refine r_sipush (q := 12) (v := 255) dJ1_charAt_3b067_9 (by decide) rfl ?_
  refine r_iand (q := 13) dJ1_charAt_3b067_12 rfl ?_
  refine r_i2c (q := 14) dJ1_charAt_3b067_13 rfl ?_
  rw [(k_byt hi hj).1]
  refine r_zret dJ1_charAt_3b067_14 rfl (k_byt hi hj).2 (Nat.le_of_ble_eq_true rfl) (Nat.le_of_ble_eq_true rfl) ?_
  exact hp
set_option maxRecDepth 100000 in
set_option maxHeartbeats 4000000 in
theorem ct_J0_charAt_5068e {E : xE} {Po : xPo} {w : xW} {i j : Nat} (hi : i < 54) (hj : j < xLen.getD i 0) (hp : Po (.inl (some (.int ((xByt.getD i []).getD j 0)))) w) : Ct M_J0_charAt_5068e E [.ref (kS E i), .int (nI j)] w Po := by
  refine Ct.of (ws2 := xAll) (L := [some (.ref (kS E i)), some (.int (nI j))]) (by decide +kernel) rfl rfl (List.forall_mem_cons.mpr ⟨rfl, List.forall_mem_cons.mpr ⟨rfl, fun _ h => absurd h List.not_mem_nil⟩⟩) (Nat.le_of_ble_eq_true rfl) rfl ?_
  refine r_aload_n (q := 1) dJ0_charAt_5068e_0 rfl rfl rfl ?_
  refine r_callK (q := 4) (As := []) dJ0_charAt_5068e_1 s_J0_charAt_5068e_492 (k_so hi) rfl rfl (Nat.le_of_ble_eq_true rfl) rfl rfl rfl (Nat.le_of_ble_eq_true rfl) (Nat.le_of_ble_eq_true rfl) ⟨(Nat.le_of_ble_eq_true rfl), (Nat.le_of_ble_eq_true rfl)⟩ rfl ?_
  refine ct_J0_isLatin1_aae02 hi ?_
  show WF _ E Po _ _ _ _ _ _ _
  refine r_if_eq (q := 16) (q2 := 7) dJ0_charAt_5068e_4 (by decide) rfl (fun h9 => absurd h9 (by decide)) (fun _ => ?_)
  refine r_aload_n (q := 8) dJ0_charAt_5068e_7 rfl rfl rfl ?_
  refine r_getk dJ0_charAt_5068e_8 g_J0_charAt_5068e_9 (k_sv hi) rfl ?_
  refine r_iload_n (q := 12) dJ0_charAt_5068e_11 rfl rfl rfl ?_
  refine r_callS (q := 15) (As := [_, _]) dJ0_charAt_5068e_12 s_J0_charAt_5068e_495 rfl rfl (Nat.le_of_ble_eq_true rfl) rfl rfl rfl (Nat.le_of_ble_eq_true rfl) (Nat.le_of_ble_eq_true rfl) ⟨(Nat.le_of_ble_eq_true rfl), (Nat.le_of_ble_eq_true rfl)⟩ rfl ?_
  refine ct_J1_charAt_3b067 hi hj ?_
  show WF _ E Po _ _ _ _ _ _ _
  refine r_zret dJ0_charAt_5068e_15 rfl (k_byt hi hj).2 (Nat.le_of_ble_eq_true rfl) (Nat.le_of_ble_eq_true rfl) ?_
  exact hp
