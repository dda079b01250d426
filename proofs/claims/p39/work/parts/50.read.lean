/-! ===== 50.read: the hire carries out its input (rows laid by wip/p39/gen/make50.py) ===== -/
theorem xGU {own C owner : String} {idx : Nat} {x y : MethodName} {a b : Cond} (h1 : Cond.methodLink own idx x ∈ xAll) (h2 : Cond.sameMethod x.cls owner x.name x.desc ∈ xAll) (h3 : Cond.selects C x y ∈ xAll) (h4 : Cond.instanceMethod y ∈ xAll) (h5 : Cond.initialized y.cls ∈ xAll) (h6 : b ∈ xAll) : GoodIn (a :: xAll) (va_wsU own idx C owner x y (b :: xAll)) :=
  goodIn_app (xGoodL (fun w hw => by
    simp only [List.mem_cons, List.not_mem_nil, or_false] at hw
    rcases hw with rfl | rfl | rfl | rfl | rfl <;> assumption)) (xGood h6)
/-- an inherited method, called on a constant -/
def xSvU (M M2 : xM) (C owner : String) (z : MethodName) (idx nn : Nat) : Prop := ∀ (s : State) (args : Array Value), (∀ w ∈ mW M, w.before args s = true) → va_CU (mR M) s args (mY M).cls C owner idx z (mY M2) (mC M2) (mL M2) (mT M2) (mW M2) (mR M2) (mK M2) (mN M2) nn
section XINH
variable {M M2 : xM} {E : xE} {Po : xPo} {w0 w : xW} {pc q : Nat} {L : List (Option Value)} {k n k2 n2 : Nat} {idx nn b ci : Nat} {As rest st : List Value}
theorem r_callUK {C9 owner : String} {z : MethodName} (hd : decode (mC M) pc = .ok (.invokevirtual idx, 3)) (sv : xSvU M M2 C9 owner z idx nn) (hO : ∀ A U H, xC E A U H → va_O C9 b A U H) (hn : As.length = nn) (hrm : (rest.map fun v => v.category).sum ≤ 8) (hq : pc + 3 = q)
    (hk : k + mK M2 = k2) (hn2 : n + mN M2 = n2) (hR : k2 ≤ (mR M).cells ∧ n2 ≤ (mR M).slots) (hst : As.reverse ++ .ref b :: rest = st)
    (hct : Ct M2 E (.ref b :: As) w (xNextI M E Po w0 q L rest k2 n2)) : WF M E Po w0 pc L st w k n := by
  subst hst
  refine x_callI (fun p l e s m args below meth c H locs ls C hl hM hp => ?_) hq hk hn2 hct
  obtain ⟨c1, c2, c3, c4, c5, c6, c7, c8, c9, c10, c11, c12⟩ := C
  have hE := (hp.2 { s with heap := H } rfl (State.WarmedH.refl s)).2.2.2
  have hrecv : ∃ cellB : Cell, H[b]? = some cellB ∧ cellB.vm.isStatics = false ∧ s.vm.findClass C9 = some cellB.cls := by
    obtain ⟨cell, h1, h2, h3, -⟩ := hO _ _ _ hE
    exact ⟨cell, h1, h2, h3⟩
  exact va_runU (n := nn) (As := As) (rest := rest) ⟨c1, c2, c4, c6, c5⟩ hM (sv s args c5) ⟨hp.1, hrecv, hp.2⟩ rfl hn hl.1 rfl (lv_room hrm) hd (by rw [hk, hn2]; exact hR)
end XINH
/-- a command carried out -/
def ocS (m : Nat) (a b : Int32) (c : xCo) : Int32 × xCo := if m = 0 then outS c a b else if m = 1 then backS c a else if m = 2 then heatPS c a b else if m = 3 then coldS c a else if m = 4 then joinS c a else if m = 5 then mendS c a b else if m = 6 then washS c a else if m = 7 then soapS c a else passS c a
theorem HI.txx {E : xE} {w : xW} {x m : Nat} {c : Nat → Int32} {h : xHi} (H : HI E w x h) (hm : m < 9) : HI E (tx E w (x + 327) c m) x (h.1, h.2.1, (c, m, h.2.2.1.2.2), h.2.2.2) := by
  have h1 := H.txt (c := c) (f := h.2.2.1.2.2) hm
  rwa [xset_id H.2.2.1.2.1] at h1
theorem dJx29ce0_ordinal_8abf5_0 : decode cJx29ce0_ordinal_8abf5 0 = .ok (.aload_n 0, 1) := by decide +kernel
theorem dJx29ce0_ordinal_8abf5_1 : decode cJx29ce0_ordinal_8abf5 1 = .ok (.getfield 7, 3) := by decide +kernel
theorem dJx29ce0_ordinal_8abf5_4 : decode cJx29ce0_ordinal_8abf5 4 = .ok (.ireturn, 1) := by decide +kernel
def M_Jx29ce0_ordinal_8abf5 : xM := (yJx29ce0_ordinal_8abf5, cJx29ce0_ordinal_8abf5, 1, (some FieldType.int), Cond.code yJx29ce0_ordinal_8abf5 cJx29ce0_ordinal_8abf5 1 (some FieldType.int) :: xAll, { frames := 1, cells := 0, slots := 0, locals := 24 }, (0, 0), [])
theorem rw0 : (Jvm.Cond.fieldLink "java/lang/Enum" (7 : Nat) "java/lang/Enum" "ordinal" "I") ∈ xAll := xin6 (List.mem_of_getElem? (i := 239) (by decide +kernel)) (by decide +kernel)
theorem g_Jx29ce0_ordinal_8abf5_7 : Cond.fieldLink (mY M_Jx29ce0_ordinal_8abf5).cls 7 "java/lang/Enum" "ordinal" "I" ∈ mW M_Jx29ce0_ordinal_8abf5 := List.mem_cons_of_mem _ rw0
set_option maxRecDepth 100000 in
set_option maxHeartbeats 4000000 in
theorem ct_Jx29ce0_ordinal_8abf5 {E : xE} {Po : xPo} {w : xW} {i : Nat} (hi : i < 9) (hp : Po (.inl (some (.int (([0, 1, 2, 3, 4, 5, 6, 7, 8] : List Int32).getD i 0)))) w) : Ct M_Jx29ce0_ordinal_8abf5 E [.ref (kE E i)] w Po := by
  refine Ct.of (ws2 := xAll) (L := [some (.ref (kE E i))]) (by decide +kernel) rfl rfl (List.forall_mem_cons.mpr ⟨rfl, fun _ h => absurd h List.not_mem_nil⟩) (Nat.le_of_ble_eq_true rfl) rfl ?_
  refine r_aload_n (q := 1) dJx29ce0_ordinal_8abf5_0 rfl rfl rfl ?_
  refine r_getk (q := 4) dJx29ce0_ordinal_8abf5_1 g_Jx29ce0_ordinal_8abf5_7 (k_ord hi) rfl ?_
  refine r_iret dJx29ce0_ordinal_8abf5_4 rfl (Nat.le_of_ble_eq_true rfl) (Nat.le_of_ble_eq_true rfl) ?_
  exact hp
theorem rw1 : (Jvm.Cond.methodLink "TubHire" (368 : Nat) ({ cls := "TubHire$Command", name := "ordinal", desc := "()I" } : Jvm.MethodName)) ∈ xAll := xin6 (List.mem_of_getElem? (i := 191) (by decide +kernel)) (by decide +kernel)
theorem rw2 : (Jvm.Cond.sameMethod "TubHire$Command" "java/lang/Enum" "ordinal" "()I") ∈ xAll := xin6 (List.mem_of_getElem? (i := 192) (by decide +kernel)) (by decide +kernel)
theorem rw3 : (Jvm.Cond.selects "TubHire$Command" ({ cls := "TubHire$Command", name := "ordinal", desc := "()I" } : Jvm.MethodName) ({ cls := "java/lang/Enum", name := "ordinal", desc := "()I" } : Jvm.MethodName)) ∈ xAll := xin6 (List.mem_of_getElem? (i := 194) (by decide +kernel)) (by decide +kernel)
theorem rw4 : (Jvm.Cond.instanceMethod ({ cls := "java/lang/Enum", name := "ordinal", desc := "()I" } : Jvm.MethodName)) ∈ xAll := xin6 (List.mem_of_getElem? (i := 195) (by decide +kernel)) (by decide +kernel)
theorem rw5 : (Jvm.Cond.initialized "java/lang/Enum") ∈ xAll := xin1 (List.mem_of_getElem? (i := 9) (by decide +kernel)) (by decide +kernel)
theorem rw6 : (Jvm.Cond.code ({ cls := "java/lang/Enum", name := "ordinal", desc := "()I" } : Jvm.MethodName) prog_21_method_2_code (1 : Nat) (Option.some Jvm.ClassFile.FieldType.int)) ∈ xAll := xin6 (List.mem_of_getElem? (i := 196) (by decide +kernel)) (by decide +kernel)
theorem s_ord : xSvU M_X9_outcomeOf M_Jx29ce0_ordinal_8abf5 "TubHire$Command" "java/lang/Enum" ({ cls := "TubHire$Command", name := "ordinal", desc := "()I" } : Jvm.MethodName) 368 0 := fun s args hts => va_cwU 0 hts (xGU rw1 rw2 rw3 rw4 rw5 rw6) rfl rfl rfl rfl (by decide +kernel) ⟨Nat.le_of_ble_eq_true rfl, Nat.le_of_ble_eq_true rfl⟩
theorem rw7 : (Jvm.Cond.fieldLink "TubHire" (362 : Nat) "TubHire$1" "$SwitchMap$TubHire$Command" "[I") ∈ xAll := xin6 (List.mem_of_getElem? (i := 189) (by decide +kernel)) (by decide +kernel)
theorem g_swm : Cond.fieldLink (mY M_X9_outcomeOf).cls 362 "TubHire$1" "$SwitchMap$TubHire$Command" "[I" ∈ mW M_X9_outcomeOf := List.mem_cons_of_mem _ rw7
set_option maxRecDepth 100000 in
set_option maxHeartbeats 4000000 in
theorem ct_X9_oc0 {E : xE} {Po : xPo} {w : xW} {x : Nat} {h : xHi} {a b : Int32} (H : HI E w x h) (hc : inC (h.1 0)) (hp : Po (.inl (some (.int (ocS 0 a b (h.1 0)).1))) (sto E w (x + 1) (ocS 0 a b (h.1 0)).2)) : Ct M_X9_outcomeOf E [.ref x, .ref (kE E 0), .int a, .int b] w Po := by
  refine Ct.of (ws2 := xAll) (L := [some (.ref x), some (.ref (kE E 0)), some (.int a), some (.int b)]) (by decide +kernel) rfl rfl (List.forall_mem_cons.mpr ⟨rfl, List.forall_mem_cons.mpr ⟨rfl, List.forall_mem_cons.mpr ⟨rfl, List.forall_mem_cons.mpr ⟨rfl, fun _ h => absurd h List.not_mem_nil⟩⟩⟩⟩) (Nat.le_of_ble_eq_true rfl) rfl ?_
  refine r_gets (q := 3) dX9_outcomeOf_0 g_swm (k_swZ) rfl ?_
  refine r_aload_n (q := 4) dX9_outcomeOf_3 rfl rfl rfl ?_
  refine r_callUK (q := 7) (As := []) dX9_outcomeOf_4 s_ord (k_cmo (i := 0) (by decide)) rfl (Nat.le_of_ble_eq_true rfl) rfl rfl rfl ⟨(Nat.le_of_ble_eq_true rfl), (Nat.le_of_ble_eq_true rfl)⟩ rfl ?_
  refine ct_Jx29ce0_ordinal_8abf5 (by decide) ?_
  show WF _ E Po _ _ _ _ _ _ _
  refine r_ti (q := 8) dX9_outcomeOf_7 (k_sw) (vp_in_nI (n := 0) (by decide) (by decide)) rfl ?_
  show WF _ E Po _ _ _ (.int 1 :: _) _ _ _
  refine r_tableIn (off := 48) (q := 56) dX9_outcomeOf_8 (by decide) (by decide) (by decide) (by decide) ?_
  refine r_aload_n (q := 57) dX9_outcomeOf_56 rfl rfl rfl ?_
  refine r_getfield (q := 60) dX9_outcomeOf_57 f_X9_outcomeOf_10 H.1.1 rfl rfl ?_
  refine r_iload_n (q := 61) dX9_outcomeOf_60 rfl rfl rfl ?_
  refine r_iload_n (q := 62) dX9_outcomeOf_61 rfl rfl rfl ?_
  refine r_callV (q := 65) (ci := 7) (As := [_, _]) dX9_outcomeOf_62 s_X9_outcomeOf_110 (H.2.1.1 0 (by decide)) rfl rfl rfl (Nat.le_of_ble_eq_true rfl) rfl rfl rfl (Nat.le_of_ble_eq_true rfl) (Nat.le_of_ble_eq_true rfl) ⟨(Nat.le_of_ble_eq_true rfl), (Nat.le_of_ble_eq_true rfl)⟩ rfl ?_
  refine Ct.cw H.2.1.1.eq.symm (ct_X5_goOut ?_)
  show WF _ E Po _ _ _ _ _ _ _
  refine r_iret dX9_outcomeOf_65 rfl (Nat.le_of_ble_eq_true rfl) (Nat.le_of_ble_eq_true rfl) ?_
  exact hp
set_option maxRecDepth 100000 in
set_option maxHeartbeats 4000000 in
theorem ct_X9_oc1 {E : xE} {Po : xPo} {w : xW} {x : Nat} {h : xHi} {a b : Int32} (H : HI E w x h) (hc : inC (h.1 0)) (hp : Po (.inl (some (.int (ocS 1 a b (h.1 0)).1))) (sto E w (x + 1) (ocS 1 a b (h.1 0)).2)) : Ct M_X9_outcomeOf E [.ref x, .ref (kE E 1), .int a, .int b] w Po := by
  refine Ct.of (ws2 := xAll) (L := [some (.ref x), some (.ref (kE E 1)), some (.int a), some (.int b)]) (by decide +kernel) rfl rfl (List.forall_mem_cons.mpr ⟨rfl, List.forall_mem_cons.mpr ⟨rfl, List.forall_mem_cons.mpr ⟨rfl, List.forall_mem_cons.mpr ⟨rfl, fun _ h => absurd h List.not_mem_nil⟩⟩⟩⟩) (Nat.le_of_ble_eq_true rfl) rfl ?_
  refine r_gets (q := 3) dX9_outcomeOf_0 g_swm (k_swZ) rfl ?_
  refine r_aload_n (q := 4) dX9_outcomeOf_3 rfl rfl rfl ?_
  refine r_callUK (q := 7) (As := []) dX9_outcomeOf_4 s_ord (k_cmo (i := 1) (by decide)) rfl (Nat.le_of_ble_eq_true rfl) rfl rfl rfl ⟨(Nat.le_of_ble_eq_true rfl), (Nat.le_of_ble_eq_true rfl)⟩ rfl ?_
  refine ct_Jx29ce0_ordinal_8abf5 (by decide) ?_
  show WF _ E Po _ _ _ _ _ _ _
  refine r_ti (q := 8) dX9_outcomeOf_7 (k_sw) (vp_in_nI (n := 1) (by decide) (by decide)) rfl ?_
  show WF _ E Po _ _ _ (.int 2 :: _) _ _ _
  refine r_tableIn (off := 58) (q := 66) dX9_outcomeOf_8 (by decide) (by decide) (by decide) (by decide) ?_
  refine r_aload_n (q := 67) dX9_outcomeOf_66 rfl rfl rfl ?_
  refine r_getfield (q := 70) dX9_outcomeOf_67 f_X9_outcomeOf_10 H.1.1 rfl rfl ?_
  refine r_iload_n (q := 71) dX9_outcomeOf_70 rfl rfl rfl ?_
  refine r_callV (q := 74) (ci := 7) (As := [_]) dX9_outcomeOf_71 s_X9_outcomeOf_113 (H.2.1.1 0 (by decide)) rfl rfl rfl (Nat.le_of_ble_eq_true rfl) rfl rfl rfl (Nat.le_of_ble_eq_true rfl) (Nat.le_of_ble_eq_true rfl) ⟨(Nat.le_of_ble_eq_true rfl), (Nat.le_of_ble_eq_true rfl)⟩ rfl ?_
  refine Ct.cw H.2.1.1.eq.symm (ct_X5_bringBack ?_)
  show WF _ E Po _ _ _ _ _ _ _
  refine r_iret dX9_outcomeOf_74 rfl (Nat.le_of_ble_eq_true rfl) (Nat.le_of_ble_eq_true rfl) ?_
  exact hp
set_option maxRecDepth 100000 in
set_option maxHeartbeats 4000000 in
theorem ct_X9_oc2 {E : xE} {Po : xPo} {w : xW} {x : Nat} {h : xHi} {a b : Int32} (H : HI E w x h) (hc : inC (h.1 0)) (hp : Po (.inl (some (.int (ocS 2 a b (h.1 0)).1))) (sto E w (x + 1) (ocS 2 a b (h.1 0)).2)) : Ct M_X9_outcomeOf E [.ref x, .ref (kE E 2), .int a, .int b] w Po := by
  refine Ct.of (ws2 := xAll) (L := [some (.ref x), some (.ref (kE E 2)), some (.int a), some (.int b)]) (by decide +kernel) rfl rfl (List.forall_mem_cons.mpr ⟨rfl, List.forall_mem_cons.mpr ⟨rfl, List.forall_mem_cons.mpr ⟨rfl, List.forall_mem_cons.mpr ⟨rfl, fun _ h => absurd h List.not_mem_nil⟩⟩⟩⟩) (Nat.le_of_ble_eq_true rfl) rfl ?_
  refine r_gets (q := 3) dX9_outcomeOf_0 g_swm (k_swZ) rfl ?_
  refine r_aload_n (q := 4) dX9_outcomeOf_3 rfl rfl rfl ?_
  refine r_callUK (q := 7) (As := []) dX9_outcomeOf_4 s_ord (k_cmo (i := 2) (by decide)) rfl (Nat.le_of_ble_eq_true rfl) rfl rfl rfl ⟨(Nat.le_of_ble_eq_true rfl), (Nat.le_of_ble_eq_true rfl)⟩ rfl ?_
  refine ct_Jx29ce0_ordinal_8abf5 (by decide) ?_
  show WF _ E Po _ _ _ _ _ _ _
  refine r_ti (q := 8) dX9_outcomeOf_7 (k_sw) (vp_in_nI (n := 2) (by decide) (by decide)) rfl ?_
  show WF _ E Po _ _ _ (.int 3 :: _) _ _ _
  refine r_tableIn (off := 67) (q := 75) dX9_outcomeOf_8 (by decide) (by decide) (by decide) (by decide) ?_
  refine r_aload_n (q := 76) dX9_outcomeOf_75 rfl rfl rfl ?_
  refine r_getfield (q := 79) dX9_outcomeOf_76 f_X9_outcomeOf_10 H.1.1 rfl rfl ?_
  refine r_iload_n (q := 80) dX9_outcomeOf_79 rfl rfl rfl ?_
  refine r_iload_n (q := 81) dX9_outcomeOf_80 rfl rfl rfl ?_
  refine r_callV (q := 84) (ci := 7) (As := [_, _]) dX9_outcomeOf_81 s_X9_outcomeOf_155 (H.2.1.1 0 (by decide)) rfl rfl rfl (Nat.le_of_ble_eq_true rfl) rfl rfl rfl (Nat.le_of_ble_eq_true rfl) (Nat.le_of_ble_eq_true rfl) ⟨(Nat.le_of_ble_eq_true rfl), (Nat.le_of_ble_eq_true rfl)⟩ rfl ?_
  refine Ct.cw H.2.1.1.eq.symm (ct_X5_putHeater ?_)
  show WF _ E Po _ _ _ _ _ _ _
  refine r_iret dX9_outcomeOf_84 rfl (Nat.le_of_ble_eq_true rfl) (Nat.le_of_ble_eq_true rfl) ?_
  exact hp
set_option maxRecDepth 100000 in
set_option maxHeartbeats 4000000 in
theorem ct_X9_oc3 {E : xE} {Po : xPo} {w : xW} {x : Nat} {h : xHi} {a b : Int32} (H : HI E w x h) (hc : inC (h.1 0)) (hp : Po (.inl (some (.int (ocS 3 a b (h.1 0)).1))) (sto E w (x + 1) (ocS 3 a b (h.1 0)).2)) : Ct M_X9_outcomeOf E [.ref x, .ref (kE E 3), .int a, .int b] w Po := by
  refine Ct.of (ws2 := xAll) (L := [some (.ref x), some (.ref (kE E 3)), some (.int a), some (.int b)]) (by decide +kernel) rfl rfl (List.forall_mem_cons.mpr ⟨rfl, List.forall_mem_cons.mpr ⟨rfl, List.forall_mem_cons.mpr ⟨rfl, List.forall_mem_cons.mpr ⟨rfl, fun _ h => absurd h List.not_mem_nil⟩⟩⟩⟩) (Nat.le_of_ble_eq_true rfl) rfl ?_
  refine r_gets (q := 3) dX9_outcomeOf_0 g_swm (k_swZ) rfl ?_
  refine r_aload_n (q := 4) dX9_outcomeOf_3 rfl rfl rfl ?_
  refine r_callUK (q := 7) (As := []) dX9_outcomeOf_4 s_ord (k_cmo (i := 3) (by decide)) rfl (Nat.le_of_ble_eq_true rfl) rfl rfl rfl ⟨(Nat.le_of_ble_eq_true rfl), (Nat.le_of_ble_eq_true rfl)⟩ rfl ?_
  refine ct_Jx29ce0_ordinal_8abf5 (by decide) ?_
  show WF _ E Po _ _ _ _ _ _ _
  refine r_ti (q := 8) dX9_outcomeOf_7 (k_sw) (vp_in_nI (n := 3) (by decide) (by decide)) rfl ?_
  show WF _ E Po _ _ _ (.int 4 :: _) _ _ _
  refine r_tableIn (off := 77) (q := 85) dX9_outcomeOf_8 (by decide) (by decide) (by decide) (by decide) ?_
  refine r_aload_n (q := 86) dX9_outcomeOf_85 rfl rfl rfl ?_
  refine r_getfield (q := 89) dX9_outcomeOf_86 f_X9_outcomeOf_10 H.1.1 rfl rfl ?_
  refine r_iload_n (q := 90) dX9_outcomeOf_89 rfl rfl rfl ?_
  refine r_callV (q := 93) (ci := 7) (As := [_]) dX9_outcomeOf_90 s_X9_outcomeOf_158 (H.2.1.1 0 (by decide)) rfl rfl rfl (Nat.le_of_ble_eq_true rfl) rfl rfl rfl (Nat.le_of_ble_eq_true rfl) (Nat.le_of_ble_eq_true rfl) ⟨(Nat.le_of_ble_eq_true rfl), (Nat.le_of_ble_eq_true rfl)⟩ rfl ?_
  refine Ct.cw H.2.1.1.eq.symm (ct_X5_takeHeater ?_)
  show WF _ E Po _ _ _ _ _ _ _
  refine r_iret dX9_outcomeOf_93 rfl (Nat.le_of_ble_eq_true rfl) (Nat.le_of_ble_eq_true rfl) ?_
  exact hp
set_option maxRecDepth 100000 in
set_option maxHeartbeats 4000000 in
theorem ct_X9_oc4 {E : xE} {Po : xPo} {w : xW} {x : Nat} {h : xHi} {a b : Int32} (H : HI E w x h) (hc : inC (h.1 0)) (hp : Po (.inl (some (.int (ocS 4 a b (h.1 0)).1))) (sto E w (x + 1) (ocS 4 a b (h.1 0)).2)) : Ct M_X9_outcomeOf E [.ref x, .ref (kE E 4), .int a, .int b] w Po := by
  refine Ct.of (ws2 := xAll) (L := [some (.ref x), some (.ref (kE E 4)), some (.int a), some (.int b)]) (by decide +kernel) rfl rfl (List.forall_mem_cons.mpr ⟨rfl, List.forall_mem_cons.mpr ⟨rfl, List.forall_mem_cons.mpr ⟨rfl, List.forall_mem_cons.mpr ⟨rfl, fun _ h => absurd h List.not_mem_nil⟩⟩⟩⟩) (Nat.le_of_ble_eq_true rfl) rfl ?_
  refine r_gets (q := 3) dX9_outcomeOf_0 g_swm (k_swZ) rfl ?_
  refine r_aload_n (q := 4) dX9_outcomeOf_3 rfl rfl rfl ?_
  refine r_callUK (q := 7) (As := []) dX9_outcomeOf_4 s_ord (k_cmo (i := 4) (by decide)) rfl (Nat.le_of_ble_eq_true rfl) rfl rfl rfl ⟨(Nat.le_of_ble_eq_true rfl), (Nat.le_of_ble_eq_true rfl)⟩ rfl ?_
  refine ct_Jx29ce0_ordinal_8abf5 (by decide) ?_
  show WF _ E Po _ _ _ _ _ _ _
  refine r_ti (q := 8) dX9_outcomeOf_7 (k_sw) (vp_in_nI (n := 4) (by decide) (by decide)) rfl ?_
  show WF _ E Po _ _ _ (.int 5 :: _) _ _ _
  refine r_tableIn (off := 86) (q := 94) dX9_outcomeOf_8 (by decide) (by decide) (by decide) (by decide) ?_
  refine r_aload_n (q := 95) dX9_outcomeOf_94 rfl rfl rfl ?_
  refine r_getfield (q := 98) dX9_outcomeOf_95 f_X9_outcomeOf_10 H.1.1 rfl rfl ?_
  refine r_iload_n (q := 99) dX9_outcomeOf_98 rfl rfl rfl ?_
  refine r_callV (q := 102) (ci := 7) (As := [_]) dX9_outcomeOf_99 s_X9_outcomeOf_135 (H.2.1.1 0 (by decide)) rfl rfl rfl (Nat.le_of_ble_eq_true rfl) rfl rfl rfl (Nat.le_of_ble_eq_true rfl) (Nat.le_of_ble_eq_true rfl) ⟨(Nat.le_of_ble_eq_true rfl), (Nat.le_of_ble_eq_true rfl)⟩ rfl ?_
  refine Ct.cw H.2.1.1.eq.symm (ct_X5_addGuest hc ?_)
  show WF _ E Po _ _ _ _ _ _ _
  refine r_iret dX9_outcomeOf_102 rfl (Nat.le_of_ble_eq_true rfl) (Nat.le_of_ble_eq_true rfl) ?_
  exact hp
set_option maxRecDepth 100000 in
set_option maxHeartbeats 4000000 in
theorem ct_X9_oc5 {E : xE} {Po : xPo} {w : xW} {x : Nat} {h : xHi} {a b : Int32} (H : HI E w x h) (hc : inC (h.1 0)) (hp : Po (.inl (some (.int (ocS 5 a b (h.1 0)).1))) (sto E w (x + 1) (ocS 5 a b (h.1 0)).2)) : Ct M_X9_outcomeOf E [.ref x, .ref (kE E 5), .int a, .int b] w Po := by
  refine Ct.of (ws2 := xAll) (L := [some (.ref x), some (.ref (kE E 5)), some (.int a), some (.int b)]) (by decide +kernel) rfl rfl (List.forall_mem_cons.mpr ⟨rfl, List.forall_mem_cons.mpr ⟨rfl, List.forall_mem_cons.mpr ⟨rfl, List.forall_mem_cons.mpr ⟨rfl, fun _ h => absurd h List.not_mem_nil⟩⟩⟩⟩) (Nat.le_of_ble_eq_true rfl) rfl ?_
  refine r_gets (q := 3) dX9_outcomeOf_0 g_swm (k_swZ) rfl ?_
  refine r_aload_n (q := 4) dX9_outcomeOf_3 rfl rfl rfl ?_
  refine r_callUK (q := 7) (As := []) dX9_outcomeOf_4 s_ord (k_cmo (i := 5) (by decide)) rfl (Nat.le_of_ble_eq_true rfl) rfl rfl rfl ⟨(Nat.le_of_ble_eq_true rfl), (Nat.le_of_ble_eq_true rfl)⟩ rfl ?_
  refine ct_Jx29ce0_ordinal_8abf5 (by decide) ?_
  show WF _ E Po _ _ _ _ _ _ _
  refine r_ti (q := 8) dX9_outcomeOf_7 (k_sw) (vp_in_nI (n := 5) (by decide) (by decide)) rfl ?_
  show WF _ E Po _ _ _ (.int 6 :: _) _ _ _
  refine r_tableIn (off := 95) (q := 103) dX9_outcomeOf_8 (by decide) (by decide) (by decide) (by decide) ?_
  refine r_aload_n (q := 104) dX9_outcomeOf_103 rfl rfl rfl ?_
  refine r_getfield (q := 107) dX9_outcomeOf_104 f_X9_outcomeOf_10 H.1.1 rfl rfl ?_
  refine r_iload_n (q := 108) dX9_outcomeOf_107 rfl rfl rfl ?_
  refine r_iload_n (q := 109) dX9_outcomeOf_108 rfl rfl rfl ?_
  refine r_callV (q := 112) (ci := 7) (As := [_, _]) dX9_outcomeOf_109 s_X9_outcomeOf_101 (H.2.1.1 0 (by decide)) rfl rfl rfl (Nat.le_of_ble_eq_true rfl) rfl rfl rfl (Nat.le_of_ble_eq_true rfl) (Nat.le_of_ble_eq_true rfl) ⟨(Nat.le_of_ble_eq_true rfl), (Nat.le_of_ble_eq_true rfl)⟩ rfl ?_
  refine Ct.cw H.2.1.1.eq.symm (ct_X5_mendSeam ?_)
  show WF _ E Po _ _ _ _ _ _ _
  refine r_iret dX9_outcomeOf_112 rfl (Nat.le_of_ble_eq_true rfl) (Nat.le_of_ble_eq_true rfl) ?_
  exact hp
set_option maxRecDepth 100000 in
set_option maxHeartbeats 4000000 in
theorem ct_X9_oc6 {E : xE} {Po : xPo} {w : xW} {x : Nat} {h : xHi} {a b : Int32} (H : HI E w x h) (hc : inC (h.1 0)) (hp : Po (.inl (some (.int (ocS 6 a b (h.1 0)).1))) (sto E w (x + 1) (ocS 6 a b (h.1 0)).2)) : Ct M_X9_outcomeOf E [.ref x, .ref (kE E 6), .int a, .int b] w Po := by
  refine Ct.of (ws2 := xAll) (L := [some (.ref x), some (.ref (kE E 6)), some (.int a), some (.int b)]) (by decide +kernel) rfl rfl (List.forall_mem_cons.mpr ⟨rfl, List.forall_mem_cons.mpr ⟨rfl, List.forall_mem_cons.mpr ⟨rfl, List.forall_mem_cons.mpr ⟨rfl, fun _ h => absurd h List.not_mem_nil⟩⟩⟩⟩) (Nat.le_of_ble_eq_true rfl) rfl ?_
  refine r_gets (q := 3) dX9_outcomeOf_0 g_swm (k_swZ) rfl ?_
  refine r_aload_n (q := 4) dX9_outcomeOf_3 rfl rfl rfl ?_
  refine r_callUK (q := 7) (As := []) dX9_outcomeOf_4 s_ord (k_cmo (i := 6) (by decide)) rfl (Nat.le_of_ble_eq_true rfl) rfl rfl rfl ⟨(Nat.le_of_ble_eq_true rfl), (Nat.le_of_ble_eq_true rfl)⟩ rfl ?_
  refine ct_Jx29ce0_ordinal_8abf5 (by decide) ?_
  show WF _ E Po _ _ _ _ _ _ _
  refine r_ti (q := 8) dX9_outcomeOf_7 (k_sw) (vp_in_nI (n := 6) (by decide) (by decide)) rfl ?_
  show WF _ E Po _ _ _ (.int 7 :: _) _ _ _
  refine r_tableIn (off := 105) (q := 113) dX9_outcomeOf_8 (by decide) (by decide) (by decide) (by decide) ?_
  refine r_aload_n (q := 114) dX9_outcomeOf_113 rfl rfl rfl ?_
  refine r_getfield (q := 117) dX9_outcomeOf_114 f_X9_outcomeOf_10 H.1.1 rfl rfl ?_
  refine r_iload_n (q := 118) dX9_outcomeOf_117 rfl rfl rfl ?_
  refine r_callV (q := 121) (ci := 7) (As := [_]) dX9_outcomeOf_118 s_X9_outcomeOf_164 (H.2.1.1 0 (by decide)) rfl rfl rfl (Nat.le_of_ble_eq_true rfl) rfl rfl rfl (Nat.le_of_ble_eq_true rfl) (Nat.le_of_ble_eq_true rfl) ⟨(Nat.le_of_ble_eq_true rfl), (Nat.le_of_ble_eq_true rfl)⟩ rfl ?_
  refine Ct.cw H.2.1.1.eq.symm (ct_X5_washTowels ?_)
  show WF _ E Po _ _ _ _ _ _ _
  refine r_iret dX9_outcomeOf_121 rfl (Nat.le_of_ble_eq_true rfl) (Nat.le_of_ble_eq_true rfl) ?_
  exact hp
set_option maxRecDepth 100000 in
set_option maxHeartbeats 4000000 in
theorem ct_X9_oc7 {E : xE} {Po : xPo} {w : xW} {x : Nat} {h : xHi} {a b : Int32} (H : HI E w x h) (hc : inC (h.1 0)) (hp : Po (.inl (some (.int (ocS 7 a b (h.1 0)).1))) (sto E w (x + 1) (ocS 7 a b (h.1 0)).2)) : Ct M_X9_outcomeOf E [.ref x, .ref (kE E 7), .int a, .int b] w Po := by
  refine Ct.of (ws2 := xAll) (L := [some (.ref x), some (.ref (kE E 7)), some (.int a), some (.int b)]) (by decide +kernel) rfl rfl (List.forall_mem_cons.mpr ⟨rfl, List.forall_mem_cons.mpr ⟨rfl, List.forall_mem_cons.mpr ⟨rfl, List.forall_mem_cons.mpr ⟨rfl, fun _ h => absurd h List.not_mem_nil⟩⟩⟩⟩) (Nat.le_of_ble_eq_true rfl) rfl ?_
  refine r_gets (q := 3) dX9_outcomeOf_0 g_swm (k_swZ) rfl ?_
  refine r_aload_n (q := 4) dX9_outcomeOf_3 rfl rfl rfl ?_
  refine r_callUK (q := 7) (As := []) dX9_outcomeOf_4 s_ord (k_cmo (i := 7) (by decide)) rfl (Nat.le_of_ble_eq_true rfl) rfl rfl rfl ⟨(Nat.le_of_ble_eq_true rfl), (Nat.le_of_ble_eq_true rfl)⟩ rfl ?_
  refine ct_Jx29ce0_ordinal_8abf5 (by decide) ?_
  show WF _ E Po _ _ _ _ _ _ _
  refine r_ti (q := 8) dX9_outcomeOf_7 (k_sw) (vp_in_nI (n := 7) (by decide) (by decide)) rfl ?_
  show WF _ E Po _ _ _ (.int 8 :: _) _ _ _
  refine r_tableIn (off := 114) (q := 122) dX9_outcomeOf_8 (by decide) (by decide) (by decide) (by decide) ?_
  refine r_aload_n (q := 123) dX9_outcomeOf_122 rfl rfl rfl ?_
  refine r_getfield (q := 126) dX9_outcomeOf_123 f_X9_outcomeOf_10 H.1.1 rfl rfl ?_
  refine r_iload_n (q := 127) dX9_outcomeOf_126 rfl rfl rfl ?_
  refine r_callV (q := 130) (ci := 7) (As := [_]) dX9_outcomeOf_127 s_X9_outcomeOf_167 (H.2.1.1 0 (by decide)) rfl rfl rfl (Nat.le_of_ble_eq_true rfl) rfl rfl rfl (Nat.le_of_ble_eq_true rfl) (Nat.le_of_ble_eq_true rfl) ⟨(Nat.le_of_ble_eq_true rfl), (Nat.le_of_ble_eq_true rfl)⟩ rfl ?_
  refine Ct.cw H.2.1.1.eq.symm (ct_X5_buySoap ?_)
  show WF _ E Po _ _ _ _ _ _ _
  refine r_iret dX9_outcomeOf_130 rfl (Nat.le_of_ble_eq_true rfl) (Nat.le_of_ble_eq_true rfl) ?_
  exact hp
set_option maxRecDepth 100000 in
set_option maxHeartbeats 4000000 in
theorem ct_X9_oc8 {E : xE} {Po : xPo} {w : xW} {x : Nat} {h : xHi} {a b : Int32} (H : HI E w x h) (hc : inC (h.1 0)) (hp : Po (.inl (some (.int (ocS 8 a b (h.1 0)).1))) (sto E w (x + 1) (ocS 8 a b (h.1 0)).2)) : Ct M_X9_outcomeOf E [.ref x, .ref (kE E 8), .int a, .int b] w Po := by
  refine Ct.of (ws2 := xAll) (L := [some (.ref x), some (.ref (kE E 8)), some (.int a), some (.int b)]) (by decide +kernel) rfl rfl (List.forall_mem_cons.mpr ⟨rfl, List.forall_mem_cons.mpr ⟨rfl, List.forall_mem_cons.mpr ⟨rfl, List.forall_mem_cons.mpr ⟨rfl, fun _ h => absurd h List.not_mem_nil⟩⟩⟩⟩) (Nat.le_of_ble_eq_true rfl) rfl ?_
  refine r_gets (q := 3) dX9_outcomeOf_0 g_swm (k_swZ) rfl ?_
  refine r_aload_n (q := 4) dX9_outcomeOf_3 rfl rfl rfl ?_
  refine r_callUK (q := 7) (As := []) dX9_outcomeOf_4 s_ord (k_cmo (i := 8) (by decide)) rfl (Nat.le_of_ble_eq_true rfl) rfl rfl rfl ⟨(Nat.le_of_ble_eq_true rfl), (Nat.le_of_ble_eq_true rfl)⟩ rfl ?_
  refine ct_Jx29ce0_ordinal_8abf5 (by decide) ?_
  show WF _ E Po _ _ _ _ _ _ _
  refine r_ti (q := 8) dX9_outcomeOf_7 (k_sw) (vp_in_nI (n := 8) (by decide) (by decide)) rfl ?_
  show WF _ E Po _ _ _ (.int 0 :: _) _ _ _
  refine r_tableOut (q := 131) dX9_outcomeOf_8 (by decide) (by decide) ?_
  refine r_aload_n (q := 132) dX9_outcomeOf_131 rfl rfl rfl ?_
  refine r_getfield (q := 135) dX9_outcomeOf_132 f_X9_outcomeOf_10 H.1.1 rfl rfl ?_
  refine r_iload_n (q := 136) dX9_outcomeOf_135 rfl rfl rfl ?_
  refine r_callV (q := 139) (ci := 7) (As := [_]) dX9_outcomeOf_136 s_X9_outcomeOf_170 (H.2.1.1 0 (by decide)) rfl rfl rfl (Nat.le_of_ble_eq_true rfl) rfl rfl rfl (Nat.le_of_ble_eq_true rfl) (Nat.le_of_ble_eq_true rfl) ⟨(Nat.le_of_ble_eq_true rfl), (Nat.le_of_ble_eq_true rfl)⟩ rfl ?_
  refine Ct.cw H.2.1.1.eq.symm (ct_X5_letHoursGo hc ?_)
  show WF _ E Po _ _ _ _ _ _ _
  refine r_iret dX9_outcomeOf_139 rfl (Nat.le_of_ble_eq_true rfl) (Nat.le_of_ble_eq_true rfl) ?_
  exact hp
theorem ct_X9_outcomeOf {E : xE} {Po : xPo} {w : xW} {x m : Nat} {h : xHi} {a b : Int32} (H : HI E w x h) (hc : inC (h.1 0)) (hm : m < 9) (hp : Po (.inl (some (.int (ocS m a b (h.1 0)).1))) (sto E w (x + 1) (ocS m a b (h.1 0)).2)) : Ct M_X9_outcomeOf E [.ref x, .ref (kE E m), .int a, .int b] w Po := by
  rcases (show m = 0 ∨ m = 1 ∨ m = 2 ∨ m = 3 ∨ m = 4 ∨ m = 5 ∨ m = 6 ∨ m = 7 ∨ m = 8 by omega) with rfl | rfl | rfl | rfl | rfl | rfl | rfl | rfl | rfl
  · exact ct_X9_oc0 H hc hp
  · exact ct_X9_oc1 H hc hp
  · exact ct_X9_oc2 H hc hp
  · exact ct_X9_oc3 H hc hp
  · exact ct_X9_oc4 H hc hp
  · exact ct_X9_oc5 H hc hp
  · exact ct_X9_oc6 H hc hp
  · exact ct_X9_oc7 H hc hp
  · exact ct_X9_oc8 H hc hp
/-- the input carried out, from the k-th command on: the answer, the text's row, the command, the core -/
def coF (f : Nat → Int32) : Nat → Nat → (Nat → Int32) → Nat → xCo → Int32 × (Nat → Int32) × Nat × xCo
  | 0, k, c, m, d => (nI k, c, m, d)
  | z + 1, k, c, m, d =>
    if (rcS f c m).1 = 0 then (nI k, (rcS f c m).2.1, (rcS f c m).2.2, d)
    else if (ocS (rcS f c m).2.2 ((rcS f c m).2.1 2) ((rcS f c m).2.1 3) d).1 < 0 then
      (-1, (rcS f c m).2.1, (rcS f c m).2.2, if (ocS (rcS f c m).2.2 ((rcS f c m).2.1 2) ((rcS f c m).2.1 3) d).1 = -1 then (ocS (rcS f c m).2.2 ((rcS f c m).2.1 2) ((rcS f c m).2.1 3) d).2 else cR (ocS (rcS f c m).2.2 ((rcS f c m).2.1 2) ((rcS f c m).2.1 3) d).2 20 (nI k))
    else coF f z (k + 1) (acS f (rcS f c m).2.1 59).2 (rcS f c m).2.2 (ocS (rcS f c m).2.2 ((rcS f c m).2.1 2) ((rcS f c m).2.1 3) d).2
/-- the hire with another core and another place in its input -/
def hT (h : xHi) (c : Nat → Int32) (m : Nat) (d : xCo) : xHi := (fun j => if j = 0 then d else h.1 j, h.2.1, (c, m, h.2.2.1.2.2), h.2.2.2)
theorem HI.hT_tx {E : xE} {w : xW} {x m m2 : Nat} {c c2 : Nat → Int32} {d : xCo} {h : xHi} (H : HI E w x (hT h c m d)) (hm : m2 < 9) : HI E (tx E w (x + 327) c2 m2) x (hT h c2 m2 d) := H.txx hm
theorem HI.hT_st {E : xE} {w : xW} {x m : Nat} {c : Nat → Int32} {d d2 : xCo} {h : xHi} (H : HI E w x (hT h c m d)) : HI E (sto E w (x + 1) d2) x (hT h c m d2) := by
  have h1 := H.st0 (c := d2)
  have e : upS (hT h c m d) 0 d2 = hT h c m d2 := by
    unfold upS hT
    refine Prod.ext ?_ rfl
    funext j
    by_cases e : j = 0 <;> simp [e]
  rwa [e] at h1
theorem HI.hT_0 {E : xE} {w : xW} {x : Nat} {h : xHi} (H : HI E w x h) : HI E w x (hT h h.2.2.1.1 h.2.2.1.2.1 (h.1 0)) := by
  have e : hT h h.2.2.1.1 h.2.2.1.2.1 (h.1 0) = h := by
    unfold hT
    refine Prod.ext ?_ rfl
    funext j
    by_cases e : j = 0 <;> simp [e]
  rwa [e]
theorem HI.tid {E : xE} {w : xW} {x m : Nat} {c : Nat → Int32} {d : xCo} {h : xHi} (H : HI E w x (hT h c m d)) : tx E w (x + 327) c m = w := xset_id H.2.2.1.1
theorem acS_len {f c : Nat → Int32} {x : Int32} : True := trivial
set_option maxRecDepth 100000 in
set_option maxHeartbeats 4000000 in
theorem lp_X9_co {E : xE} {Po : xPo} {w0 w : xW} {x : Nat} {h0 : xHi} {r9 : Int32 × (Nat → Int32) × Nat × xCo} (inv : Nat → xCo → Prop) (hi : ∀ z d, inv (z + 1) d → inC d ∧ ∀ m a b, m < 9 → inv z (ocS m a b d).2) (hp : ∀ u, HI E u x (hT h0 r9.2.1 r9.2.2.1 r9.2.2.2) → Fr w u x h0 → Po (.inl (some (.int r9.1))) u) (n : Nat) : ∀ (z k : Nat) (u : xW) (c : Nat → Int32) (m : Nat) (d : xCo) (o2 : Option Value) (hz : k + z = 60) (hm : m < 9) (H : HI E u x (hT h0 c m d)) (F : Fr w u x h0) (hv : inv z d) (hr : coF h0.2.2.1.2.2 z k c m d = r9) (hn : z < n), WF M_X9_carriedOut E Po w0 10 [some (.ref x), some (.int (nI k)), o2] [] u 0 0 := by
  induction n with
  | zero => intro z k u c m d o2 hz hm H F hv hr hn; exact absurd hn (Nat.not_lt_zero _)
  | succ n ih =>
    intro z k u c m d o2 hz hm H F hv hr hn
    refine r_iload_n (q := 11) dX9_carriedOut_10 rfl rfl rfl ?_
    refine r_bipush (q := 13) (v := 60) dX9_carriedOut_11 (by decide) rfl ?_
    refine r_icmp_ge (q := 93) (q2 := 16) dX9_carriedOut_13 (by decide) rfl (fun h13 => ?_) (fun h13 => ?_)
    · obtain rfl : z = 0 := by
        have : ¬ k < 60 := fun q => Int32.not_le.mpr (nI_lt (a := k) (b := 60) q (by decide)) h13
        omega
      have hr9 : coF h0.2.2.1.2.2 0 k c m d = r9 := hr
      subst hr9
      refine r_iload_n (q := 94) dX9_carriedOut_93 rfl rfl rfl ?_
      refine r_iret dX9_carriedOut_94 rfl (Nat.le_of_ble_eq_true rfl) (Nat.le_of_ble_eq_true rfl) ?_
      exact hp _ H F
    · have hk : k < 60 := by
        have : ¬ 60 ≤ k := fun q => h13 (nI_le (a := 60) (b := k) q (by omega))
        omega
      obtain ⟨z2, rfl⟩ : ∃ q, z = q + 1 := ⟨z - 1, by omega⟩
      rw [coF] at hr
      refine r_aload_n (q := 17) dX9_carriedOut_16 rfl rfl rfl ?_
      refine r_getfield (q := 20) dX9_carriedOut_17 f_X9_carriedOut_32 H.1.1 rfl rfl ?_
      refine r_callV (q := 23) (ci := 9) (As := []) dX9_carriedOut_20 s_X9_carriedOut_339 H.2.2.1.1 rfl rfl rfl (Nat.le_of_ble_eq_true rfl) rfl rfl rfl (Nat.le_of_ble_eq_true rfl) (Nat.le_of_ble_eq_true rfl) ⟨(Nat.le_of_ble_eq_true rfl), (Nat.le_of_ble_eq_true rfl)⟩ rfl ?_
      refine Ct.cw H.tid.symm (ct_X7_readsCommand (w := u) (f := h0.2.2.1.2.2) (c := c) (m := m) H.2.2.1.2.1 hm ?_)
      show WF _ E Po _ _ _ _ _ _ _
      have hm2 := rcS_m (f := h0.2.2.1.2.2) (c := c) hm
      replace H := H.hT_tx (c2 := (rcS h0.2.2.1.2.2 c m).2.1) hm2
      replace F := F.set (e := txtE E (x + 327) (rcS h0.2.2.1.2.2 c m).2.1 (rcS h0.2.2.1.2.2 c m).2.2) (a := x + 327) (by omega) (by omega)
      generalize hrc : rcS h0.2.2.1.2.2 c m = R at H F hr hm2 ⊢
      obtain ⟨r1, c2, m2⟩ := R
      dsimp only at H F hr hm2 ⊢
      refine r_if_eq (q := 93) (q2 := 26) dX9_carriedOut_23 (by decide) rfl (fun h23 => ?_) (fun h23 => ?_)
      · rw [if_pos h23] at hr
        subst hr
        refine r_iload_n (q := 94) dX9_carriedOut_93 rfl rfl rfl ?_
        refine r_iret dX9_carriedOut_94 rfl (Nat.le_of_ble_eq_true rfl) (Nat.le_of_ble_eq_true rfl) ?_
        exact hp _ H F
      · rw [if_neg h23] at hr
        refine r_aload_n (q := 27) dX9_carriedOut_26 rfl rfl rfl ?_
        refine r_aload_n (q := 28) dX9_carriedOut_27 rfl rfl rfl ?_
        refine r_getfield (q := 31) dX9_carriedOut_28 f_X9_carriedOut_32 H.1.1 rfl rfl ?_
        refine r_getfield (q := 34) dX9_carriedOut_31 f_X9_carriedOut_343 H.2.2.1.1 rfl rfl ?_
        refine r_aload_n (q := 35) dX9_carriedOut_34 rfl rfl rfl ?_
        refine r_getfield (q := 38) dX9_carriedOut_35 f_X9_carriedOut_32 H.1.1 rfl rfl ?_
        refine r_getfield (q := 41) dX9_carriedOut_38 f_X9_carriedOut_347 H.2.2.1.1 rfl rfl ?_
        refine r_aload_n (q := 42) dX9_carriedOut_41 rfl rfl rfl ?_
        refine r_getfield (q := 45) dX9_carriedOut_42 f_X9_carriedOut_32 H.1.1 rfl rfl ?_
        refine r_getfield (q := 48) dX9_carriedOut_45 f_X9_carriedOut_350 H.2.2.1.1 rfl rfl ?_
        refine r_callV (q := 51) (ci := 11) (As := [_, _, _]) dX9_carriedOut_48 s_X9_carriedOut_353 H.1.1 rfl rfl rfl (Nat.le_of_ble_eq_true rfl) rfl rfl rfl (Nat.le_of_ble_eq_true rfl) (Nat.le_of_ble_eq_true rfl) ⟨(Nat.le_of_ble_eq_true rfl), (Nat.le_of_ble_eq_true rfl)⟩ rfl ?_
        refine ct_X9_outcomeOf H (hi z2 d hv).1 hm2 ?_
        show WF _ E Po _ _ _ _ _ _ _
        have hv2 := (hi z2 d hv).2 m2 (c2 2) (c2 3) hm2
        change WF _ E Po _ _ _ (.int (ocS m2 (c2 2) (c2 3) d).1 :: _) (sto E _ (x + 1) (ocS m2 (c2 2) (c2 3) d).2) _ _
        replace H := H.hT_st (d2 := (ocS m2 (c2 2) (c2 3) d).2)
        replace F := F.sto (E := E) (c := (ocS m2 (c2 2) (c2 3) d).2) (b := x + 1) (by omega) (by omega)
        generalize hoc : ocS m2 (c2 2) (c2 3) d = O at H F hr hv2 ⊢
        obtain ⟨o1, d2⟩ := O
        dsimp only at H F hr hv2 ⊢
        refine r_istore_n (q := 52) dX9_carriedOut_51 rfl (Nat.le_of_ble_eq_true rfl) (xone_of rfl) rfl ?_
        refine r_iload_n (q := 53) dX9_carriedOut_52 rfl rfl rfl ?_
        refine r_if_ge (q := 77) (q2 := 56) dX9_carriedOut_53 (by decide) rfl (fun h53 => ?_) (fun h53 => ?_)
        · have hn : ¬ o1 < 0 := Int32.not_lt.mpr h53
          rw [if_neg hn] at hr
          refine r_iinc (q := 80) dX9_carriedOut_77 rfl (Nat.le_of_ble_eq_true rfl) (xone_of rfl) rfl ?_
          rw [show nI k + Int32.ofInt 1 = nI (k + 1) from nI_1 k]
          refine r_aload_n (q := 81) dX9_carriedOut_80 rfl rfl rfl ?_
          refine r_getfield (q := 84) dX9_carriedOut_81 f_X9_carriedOut_32 H.1.1 rfl rfl ?_
          refine r_bipush (q := 86) (v := 59) dX9_carriedOut_84 (by decide) rfl ?_
          refine r_callV (q := 89) (ci := 9) (As := [_]) dX9_carriedOut_86 s_X9_carriedOut_359 H.2.2.1.1 rfl rfl rfl (Nat.le_of_ble_eq_true rfl) rfl rfl rfl (Nat.le_of_ble_eq_true rfl) (Nat.le_of_ble_eq_true rfl) ⟨(Nat.le_of_ble_eq_true rfl), (Nat.le_of_ble_eq_true rfl)⟩ rfl ?_
          refine Ct.cw H.tid.symm (ct_ac (f := h0.2.2.1.2.2) H.2.2.1.2.1 ?_)
          show WF _ E Po _ _ _ _ _ _ _
          refine r_pop (q := 90) dX9_carriedOut_89 rfl rfl ?_
          refine r_goto (q := 10) dX9_carriedOut_90 (by decide) ?_
          exact ih z2 (k + 1) _ _ _ _ _ (by omega) hm2 (H.hT_tx hm2) (F.set (by omega) (by omega)) hv2 hr (by omega)
        · have hn : o1 < 0 := Int32.not_le.mp h53
          rw [if_pos hn] at hr
          refine r_iload_n (q := 57) dX9_carriedOut_56 rfl rfl rfl ?_
          refine r_iconst (q := 58) (v := (-1)) dX9_carriedOut_57 rfl rfl ?_
          refine r_icmp_eq (q := 75) (q2 := 61) dX9_carriedOut_58 (by decide) rfl (fun h58 => ?_) (fun h58 => ?_)
          · rw [if_pos h58] at hr
            subst hr
            refine r_iconst (q := 76) (v := (-1)) dX9_carriedOut_75 rfl rfl ?_
            refine r_iret dX9_carriedOut_76 rfl (Nat.le_of_ble_eq_true rfl) (Nat.le_of_ble_eq_true rfl) ?_
            exact hp _ H F
          · rw [if_neg h58] at hr
            subst hr
            refine r_aload_n (q := 62) dX9_carriedOut_61 rfl rfl rfl ?_
            refine r_getfield (q := 65) dX9_carriedOut_62 f_X9_carriedOut_10 H.1.1 rfl rfl ?_
            refine r_getfield (q := 68) dX9_carriedOut_65 f_X9_carriedOut_296 (H.2.1.1 0 (by decide)) (by rfl) rfl ?_
            refine r_bipush (q := 70) (v := 20) dX9_carriedOut_68 (by decide) rfl ?_
            refine r_iload_n (q := 71) dX9_carriedOut_70 rfl rfl rfl ?_
            refine r_callV (q := 74) (ci := 6) (As := [_, _]) dX9_carriedOut_71 s_X9_carriedOut_357 (H.2.1.1 1 (by decide)) rfl rfl rfl (Nat.le_of_ble_eq_true rfl) rfl rfl rfl (Nat.le_of_ble_eq_true rfl) (Nat.le_of_ble_eq_true rfl) ⟨(Nat.le_of_ble_eq_true rfl), (Nat.le_of_ble_eq_true rfl)⟩ rfl ?_
            refine Ct.cw H.2.1.1.eq.symm (ct_keepS ?_)
            show WF _ E Po _ _ _ _ _ _ _
            replace H := H.hT_st (d2 := cR d2 20 (nI k))
            replace F := F.sto (E := E) (c := cR d2 20 (nI k)) (b := x + 1) (by omega) (by omega)
            refine r_pop (q := 75) dX9_carriedOut_74 rfl rfl ?_
            refine r_iconst (q := 76) (v := (-1)) dX9_carriedOut_75 rfl rfl ?_
            refine r_iret dX9_carriedOut_76 rfl (Nat.le_of_ble_eq_true rfl) (Nat.le_of_ble_eq_true rfl) ?_
            exact hp _ H F
set_option maxRecDepth 100000 in
set_option maxHeartbeats 4000000 in
theorem ct_X9_carriedOut {E : xE} {Po : xPo} {w : xW} {x : Nat} {h : xHi} (H : HI E w x h) (inv : Nat → xCo → Prop) (hi : ∀ z d, inv (z + 1) d → inC d ∧ ∀ m a b, m < 9 → inv z (ocS m a b d).2) (hv : inv 60 (h.1 0)) (hp : ∀ u, HI E u x (hT h (coF h.2.2.1.2.2 60 0 (upd h.2.2.1.1 1 0) h.2.2.1.2.1 (h.1 0)).2.1 (coF h.2.2.1.2.2 60 0 (upd h.2.2.1.1 1 0) h.2.2.1.2.1 (h.1 0)).2.2.1 (coF h.2.2.1.2.2 60 0 (upd h.2.2.1.1 1 0) h.2.2.1.2.1 (h.1 0)).2.2.2) → Fr w u x h → Po (.inl (some (.int (coF h.2.2.1.2.2 60 0 (upd h.2.2.1.1 1 0) h.2.2.1.2.1 (h.1 0)).1))) u) : Ct M_X9_carriedOut E [.ref x] w Po := by
  refine Ct.of (ws2 := xAll) (L := [some (.ref x), none, none]) (by decide +kernel) rfl rfl (List.forall_mem_cons.mpr ⟨rfl, fun _ h => absurd h List.not_mem_nil⟩) (Nat.le_of_ble_eq_true rfl) rfl ?_
  refine r_aload_n (q := 1) dX9_carriedOut_0 rfl rfl rfl ?_
  refine r_getfield (q := 4) dX9_carriedOut_1 f_X9_carriedOut_32 H.1.1 rfl rfl ?_
  refine r_iconst (q := 5) (v := 0) dX9_carriedOut_4 rfl rfl ?_
  refine r_putfield (q := 8) dX9_carriedOut_5 f_X9_carriedOut_336 H.2.2.1.1 rfl rfl (Nat.le_of_ble_eq_true rfl) rfl ?_
  refine WF.cw (show _ = tx E w (x + 327) (upd h.2.2.1.1 1 0) h.2.2.1.2.1 from (congrArg (fun z => xset z (x + 327) _) (xset_id H.2.2.1.1).symm).trans tx_p1) ?_
  refine r_iconst (q := 9) (v := 0) dX9_carriedOut_8 rfl rfl ?_
  refine r_istore_n (q := 10) dX9_carriedOut_9 rfl (Nat.le_of_ble_eq_true rfl) (xone_of rfl) rfl ?_
  exact lp_X9_co inv hi hp 61 60 0 _ _ _ _ _ rfl H.2.2.1.2.2 (H.hT_0.hT_tx H.2.2.1.2.2) (Fr.id.set (by omega) (by omega)) hv rfl (by decide)
theorem ff1_m {f : Nat → Int32} {K : (Nat → Int32) → Int32 × (Nat → Int32) × Nat} {h : Int32} {c : Nat → Int32} {m : Nat} (hm : m < 9) (hK : ∀ d, (K d).2.2 < 9) : (ff1 f K h c m).2.2 < 9 := by
  unfold ff1
  by_cases h1 : h = 0
  · rw [if_pos h1]; exact hm
  · rw [if_neg h1]
    by_cases h2 : c 1 < c 0
    · rw [if_pos h2]
      by_cases h3 : (acS f c 59).1 = 0
      · rw [if_pos h3]; exact hm
      · rw [if_neg h3]; exact hK _
    · rw [if_neg h2]; exact hm
theorem ffF_m {f : Nat → Int32} : ∀ (n : Nat) (c : Nat → Int32) (m : Nat), m < 9 → (ffF f n c m).2.2 < 9 := by
  intro n
  induction n with
  | zero => intro c m hm; exact hm
  | succ n ih =>
    intro c m hm
    rw [ffF]
    exact ff1_m (rcS_m hm) (fun d => ih d _ (rcS_m hm))
theorem ffS_m {f c : Nat → Int32} {m : Nat} (hm : m < 9) : (ffS f c m).2.2 < 9 := by
  unfold ffS
  exact ffF_m 60 _ m hm
theorem ct_X9_carriedOutR {E : xE} {Po : xPo} {w : xW} {x : Nat} {h : xHi} {RB : Int32 × (Nat → Int32) × Nat × xCo} (H : HI E w x h) (inv : Nat → xCo → Prop) (hi : ∀ z d, inv (z + 1) d → inC d ∧ ∀ m a b, m < 9 → inv z (ocS m a b d).2) (hv : inv 60 (h.1 0)) (hB : coF h.2.2.1.2.2 60 0 (upd h.2.2.1.1 1 0) h.2.2.1.2.1 (h.1 0) = RB) (hp : ∀ u, HI E u x (hT h RB.2.1 RB.2.2.1 RB.2.2.2) → Fr w u x h → Po (.inl (some (.int RB.1))) u) : Ct M_X9_carriedOut E [.ref x] w Po := by
  subst hB
  exact ct_X9_carriedOut H inv hi hv hp
/-- the hire, its input read -/
def rdT (h : xHi) (R : Int32 × (Nat → Int32) × Nat × xCo) : xHi := ((fun j => if j = 0 then R.2.2.2 else (hN h).1 j), h.2.1, (upd R.2.1 0 0, R.2.2.1, h.2.2.1.2.2), h.2.2.2)
/-- the hire, its input refused -/
def rdX (h : xHi) (R : Int32 × (Nat → Int32) × Nat) : xHi := (h.1, h.2.1, (upd R.2.1 0 0, R.2.2, h.2.2.1.2.2), (h.2.2.2.1.1, R.1), h.2.2.2.2)
theorem rdT_0 {h : xHi} {R : Int32 × (Nat → Int32) × Nat × xCo} : (rdT h R).1 (3 + h.2.1.1) = (hN h).1 (3 + h.2.1.1) := if_neg (by omega)
theorem Fr.trans2 {w u v : xW} {x : Nat} {h h2 : xHi} (a : Fr w u x h) (b : Fr u v x h2) (e : h2.2.2.2.2.1 = h.2.2.2.2.1) : Fr w v x h := by
  refine ⟨Nat.le_trans a.1 b.1, fun q hq hl => (b.2 q ?_ (Nat.lt_of_lt_of_le hl a.1)).trans (a.2 q hq hl)⟩
  unfold HF at hq ⊢
  rwa [e]
set_option maxRecDepth 100000 in
set_option maxHeartbeats 4000000 in
theorem ct_X9_read {E : xE} {Po : xPo} {w : xW} {x : Nat} {h : xHi} {RA : Int32 × (Nat → Int32) × Nat} {RB : Int32 × (Nat → Int32) × Nat × xCo} (hA : ffS h.2.2.1.2.2 h.2.2.1.1 h.2.2.1.2.1 = RA) (hB : coF h.2.2.1.2.2 60 0 (upd RA.2.1 1 0) RA.2.2 (h.1 0) = RB) (H : HI E w x h) (inv : Nat → xCo → Prop) (hi : ∀ z d, inv (z + 1) d → inC d ∧ ∀ m a b, m < 9 → inv z (ocS m a b d).2) (hv : inv 60 (h.1 0)) (hp : if RA.1 < 0 then (if 0 ≤ RB.1 then ∀ u, HI E u x (hK (rdT h RB)) → Fr w u x h → Po (.inl (some (.int RB.1))) u else ∀ u, HI E u x (upS (rdT h RB) 0 (cpS RB.2.2.2 ((hN h).1 (3 + h.2.1.1)))) → Fr w u x h → Po (.inr "java/lang/UnsupportedOperationException") u) else ∀ u, HI E u x (rdX h RA) → Fr w u x h → Po (.inr "java/lang/IllegalArgumentException") u) : Ct M_X9_read E [.ref x] w Po := by
  refine Ct.of (ws2 := xAll) (L := [some (.ref x), none, none]) (by decide +kernel) rfl rfl (List.forall_mem_cons.mpr ⟨rfl, fun _ h => absurd h List.not_mem_nil⟩) (Nat.le_of_ble_eq_true rfl) rfl ?_
  refine r_aload_n (q := 1) dX9_read_0 rfl rfl rfl ?_
  refine r_getfield (q := 4) dX9_read_1 f_X9_read_32 H.1.1 rfl rfl ?_
  refine r_callV (q := 7) (ci := 9) (As := []) dX9_read_4 s_X9_read_275 H.2.2.1.1 rfl rfl rfl (Nat.le_of_ble_eq_true rfl) rfl rfl rfl (Nat.le_of_ble_eq_true rfl) (Nat.le_of_ble_eq_true rfl) ⟨(Nat.le_of_ble_eq_true rfl), (Nat.le_of_ble_eq_true rfl)⟩ rfl ?_
  refine Ct.cw (xset_id H.2.2.1.1).symm (ct_X7_firstFault (w := w) (f := h.2.2.1.2.2) (c := h.2.2.1.1) (m := h.2.2.1.2.1) H.2.2.1.2.1 H.2.2.1.2.2 ?_)
  show WF _ E Po _ _ _ _ _ _ _
  have hm2 : RA.2.2 < 9 := by rw [← hA]; exact ffS_m H.2.2.1.2.2
  rw [hA]
  clear hA
  have H1 := H.txx (c := RA.2.1) hm2
  have F1 : Fr w (tx E w (x + 327) RA.2.1 RA.2.2) x h := Fr.id.set (by omega) (by omega)
  refine r_istore_n (q := 8) dX9_read_7 rfl (Nat.le_of_ble_eq_true rfl) (xone_of rfl) rfl ?_
  refine r_iload_n (q := 9) dX9_read_8 rfl rfl rfl ?_
  refine r_if_lt (q := 36) (q2 := 12) dX9_read_9 (by decide) rfl (fun h9 => ?_) (fun h9 => ?_)
  · rw [if_pos h9] at hp
    refine r_aload_n (q := 37) dX9_read_36 rfl rfl rfl ?_
    refine r_getfield (q := 40) dX9_read_37 f_X9_read_25 H1.1.1 rfl rfl ?_
    refine r_aload_n (q := 41) dX9_read_40 rfl rfl rfl ?_
    refine r_getfield (q := 44) dX9_read_41 f_X9_read_10 H1.1.1 rfl rfl ?_
    refine r_callV (q := 47) (ci := 5) (As := [_]) dX9_read_44 s_X9_read_51 H1.1.2.1 rfl rfl rfl (Nat.le_of_ble_eq_true rfl) rfl rfl rfl (Nat.le_of_ble_eq_true rfl) (Nat.le_of_ble_eq_true rfl) ⟨(Nat.le_of_ble_eq_true rfl), (Nat.le_of_ble_eq_true rfl)⟩ rfl ?_
    refine ct_X3_note H1.1.2.2.2 H1.P (H1.2.1.2.2.2 _ H1.1.2.2.2) H1.2.1.1 (by omega) ?_
    show WF _ E Po _ _ _ _ _ _ _
    have H2 := H1.str (c := cpS (h.1 (3 + h.2.1.1)) (h.1 0)) H.1.2.2.2
    have F2 := F1.sto (E := E) (c := cpS (h.1 (3 + h.2.1.1)) (h.1 0)) (b := x + 82 + 2 + 27 * h.2.1.1) (by omega) (by have := H.1.2.2.2; omega)
    have e0 : (upS (h.1, h.2.1, (RA.2.1, RA.2.2, h.2.2.1.2.2), h.2.2.2) (3 + h.2.1.1) (cpS (h.1 (3 + h.2.1.1)) (h.1 0))).1 0 = h.1 0 := if_neg (by omega)
    refine r_aload_n (q := 48) dX9_read_47 rfl rfl rfl ?_
    refine r_callV (q := 51) (ci := 11) (As := []) dX9_read_48 s_X9_read_280 H2.1.1 rfl rfl rfl (Nat.le_of_ble_eq_true rfl) rfl rfl rfl (Nat.le_of_ble_eq_true rfl) (Nat.le_of_ble_eq_true rfl) ⟨(Nat.le_of_ble_eq_true rfl), (Nat.le_of_ble_eq_true rfl)⟩ rfl ?_
    refine ct_X9_carriedOutR (RB := RB) H2 inv hi (by rw [e0]; exact hv) (by rw [e0]; exact hB) ?_
    clear hB
    intro u H3 F3
    show WF _ E Po _ _ _ _ _ _ _
    have F4 := F2.trans2 F3 rfl
    clear F3
    refine r_istore_n (q := 52) dX9_read_51 rfl (Nat.le_of_ble_eq_true rfl) (xone_of rfl) rfl ?_
    refine r_aload_n (q := 53) dX9_read_52 rfl rfl rfl ?_
    refine r_getfield (q := 56) dX9_read_53 f_X9_read_32 H3.1.1 rfl rfl ?_
    refine r_iconst (q := 57) (v := 0) dX9_read_56 rfl rfl ?_
    refine r_putfield (q := 60) dX9_read_57 f_X9_read_235 H3.2.2.1.1 rfl rfl (Nat.le_of_ble_eq_true rfl) rfl ?_
    refine WF.cw (show _ = tx E _ (x + 327) (upd RB.2.1 0 0) _ from (congrArg (fun z => xset z (x + 327) _) (xset_id H3.2.2.1.1).symm).trans tx_p0) ?_
    have H4 : HI E _ x (rdT h RB) := H3.txx (c := upd RB.2.1 0 0) H3.2.2.1.2.2
    have F5 := F4.set (e := txtE E (x + 327) (upd RB.2.1 0 0) RB.2.2.1) (a := x + 327) (by omega) (by omega)
    refine r_iload_n (q := 61) dX9_read_60 rfl rfl rfl ?_
    refine r_if_ge (q := 86) (q2 := 64) dX9_read_61 (by decide) rfl (fun h61 => ?_) (fun h61 => ?_)
    · rw [if_pos h61] at hp
      refine r_aload_n (q := 87) dX9_read_86 rfl rfl rfl ?_
      refine r_getfield (q := 90) dX9_read_87 f_X9_read_25 H4.1.1 rfl rfl ?_
      refine r_callV (q := 93) (ci := 5) (As := []) dX9_read_90 s_X9_read_291 H4.1.2.1 rfl rfl rfl (Nat.le_of_ble_eq_true rfl) rfl rfl rfl (Nat.le_of_ble_eq_true rfl) (Nat.le_of_ble_eq_true rfl) ⟨(Nat.le_of_ble_eq_true rfl), (Nat.le_of_ble_eq_true rfl)⟩ rfl ?_
      refine ct_X3_keep H4.1.2.2.2 H4.P ?_
      show WF _ E Po _ _ _ _ _ _ _
      refine r_iload_n (q := 94) dX9_read_93 rfl rfl rfl ?_
      refine r_iret dX9_read_94 rfl (Nat.le_of_ble_eq_true rfl) (Nat.le_of_ble_eq_true rfl) ?_
      exact hp _ (H4.pas (Nat.mod_lt _ (by decide))) (F5.set (by omega) (by omega))
    · rw [if_neg h61] at hp
      refine r_aload_n (q := 65) dX9_read_64 rfl rfl rfl ?_
      refine r_getfield (q := 68) dX9_read_65 f_X9_read_25 H4.1.1 rfl rfl ?_
      refine r_aload_n (q := 69) dX9_read_68 rfl rfl rfl ?_
      refine r_getfield (q := 72) dX9_read_69 f_X9_read_10 H4.1.1 rfl rfl ?_
      refine r_callV (q := 75) (ci := 5) (As := [_]) dX9_read_72 s_X9_read_283 H4.1.2.1 rfl rfl rfl (Nat.le_of_ble_eq_true rfl) rfl rfl rfl (Nat.le_of_ble_eq_true rfl) (Nat.le_of_ble_eq_true rfl) ⟨(Nat.le_of_ble_eq_true rfl), (Nat.le_of_ble_eq_true rfl)⟩ rfl ?_
      refine ct_X3_giveNoted (d := (hN h).1 (3 + h.2.1.1)) H4.1.2.2.2 H4.P (rdT_0 (h := h) (R := RB) ▸ H4.2.1.2.2.2 _ H4.1.2.2.2) H4.2.1.1 (by omega) ?_
      show WF _ E Po _ _ _ _ _ _ _
      have H5 := H4.st0 (c := cpS RB.2.2.2 ((hN h).1 (3 + h.2.1.1)))
      exact r_throwSW (i := 23) (by decide +kernel) th_nm (by decide) (fun _ h => List.mem_cons_of_mem _ h) th_UO tk_UO ti_UO rfl dX9_read_75 dX9_read_78 dX9_read_79 dX9_read_82 dX9_read_85 rfl (Nat.le_of_ble_eq_true rfl) (Nat.le_of_ble_eq_true rfl) (Nat.le_of_ble_eq_true rfl) (Nat.le_of_ble_eq_true rfl) (Nat.le_of_ble_eq_true rfl) (Nat.le_of_ble_eq_true rfl) (fun z hz => hp _ (H5.sz hz) ((F5.sto (by omega) (by omega)).sz hz))
  · rw [if_neg h9] at hp
    refine r_aload_n (q := 13) dX9_read_12 rfl rfl rfl ?_
    refine r_iload_n (q := 14) dX9_read_13 rfl rfl rfl ?_
    refine r_putfield (q := 17) dX9_read_14 f_X9_read_47 H1.1.1 rfl rfl (Nat.le_of_ble_eq_true rfl) rfl ?_
    have H2 := H1.sv h.2.2.2.1.1 RA.1
    have F2 := F1.set (e := hirE x h.2.2.2.1.1 RA.1) (a := x) (by omega) (by omega)
    refine r_aload_n (q := 18) dX9_read_17 rfl rfl rfl ?_
    refine r_getfield (q := 21) dX9_read_18 f_X9_read_32 H2.1.1 rfl rfl ?_
    refine r_iconst (q := 22) (v := 0) dX9_read_21 rfl rfl ?_
    refine r_putfield (q := 25) dX9_read_22 f_X9_read_235 H2.2.2.1.1 rfl rfl (Nat.le_of_ble_eq_true rfl) rfl ?_
    refine WF.cw (show _ = tx E _ (x + 327) (upd RA.2.1 0 0) _ from (congrArg (fun z => xset z (x + 327) _) (xset_id H2.2.2.1.1).symm).trans tx_p0) ?_
    have H3 := H2.txx (c := upd RA.2.1 0 0) hm2
    exact r_throwSW (i := 22) (by decide +kernel) th_nm (by decide) (fun _ h => List.mem_cons_of_mem _ h) th_IA tk_IA ti_IA rfl dX9_read_25 dX9_read_28 dX9_read_29 dX9_read_32 dX9_read_35 rfl (Nat.le_of_ble_eq_true rfl) (Nat.le_of_ble_eq_true rfl) (Nat.le_of_ble_eq_true rfl) (Nat.le_of_ble_eq_true rfl) (Nat.le_of_ble_eq_true rfl) (Nat.le_of_ble_eq_true rfl) (fun z hz => hp _ (H3.sz hz) ((F2.set (by omega) (by omega)).sz hz))
