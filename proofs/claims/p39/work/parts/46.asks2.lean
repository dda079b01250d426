/-! ===== 46.asks2: what the hire tells, with NoSuchElementException (rows laid by wip/p39/gen/make46.py) ===== -/
section NSTW
variable {p : Program} {l : Launch} {e : Env} {R : Room} {s : State} {m : MethodId} {args : Array Value} {below : List Frame} {meth : Method} {c : Code} {H : Heap} {locs : List Loc} {cells slots : Nat}
variable {mc ms : Nat} {free : Addr → Prop} {A0 A1 : Nat → Prop} {H0 : Heap} {a : Array Value} {ls : Array Slot} {st0 rest : List Value}
variable {Qc : Array Value → State → Outcome → State → Prop} {XC : String → State → State → Prop}
set_option maxHeartbeats 4000000 in
theorem nsThrowW {cc : ByteArray} {pc : Nat} (hexec : p.tables.exec = Jvm.exec) (hb : c.code = cc) (hl : l.stackTraces = false) {own cls text Y9 : String} {r9 : List String} {ik is ic mc ms sa : Nat} {A : Nat → Prop}
    (hown : s.vm.findClass own = some m.cls) (hcls : Bundle.fit cls = true) (hY9 : Bundle.fit Y9 = true) (hnames : ∀ n ∈ r9, Bundle.fit n = true)
    (hk : (Cond.classLink own ik cls).before args s = true) (hini : (Cond.initialized cls).before args s = true) (hstr : vk_R own is text sa s) (hat : ∀ w ∈ nsAtS own ic cls Y9 r9, w.before args s = true)
    (hgood : ∀ w ∈ Cond.classLink own ik cls :: Cond.initialized cls :: nsAtS own ic cls Y9 r9, vx_ot w = true)
    (hU : vx_Zq Bundle.tN "UNASSIGNED_STACK" Bundle.steD A s s.heap) (hN : vx_Zq Bundle.tN "SUPPRESSED_SENTINEL" Bundle.listD A s s.heap) (hS : va_S A s.heap H locs) (hsize : ls.size = c.maxLocals)
    (d0 : decode cc pc = .ok (.new ik, 3)) (d3 : decode cc (pc + 3) = .ok (.dup, 1)) (d4 : decode cc (pc + 4) = .ok (.ldc_w is, 3)) (d7 : decode cc (pc + 7) = .ok (.invokespecial ic, 3)) (d10 : decode cc (pc + 10) = .ok (.athrow, 1))
    (hout : ∀ x ∈ c.exceptionTable.toList, covers x (pc + 10) = false)
    (hRframes : r9.length + 4 < R.frames) (hRlocals : (rest.map fun v => v.category).sum + (13 * (r9.length + 2) + 43) ≤ R.locals) (hRcells : cells + 1 ≤ R.cells) (hRslots : slots + 6 ≤ R.slots) (hlocks : meth.locks = false)
    (hx : ∀ t : State, s.vm.Alike t.vm → H.size ≤ t.heap.size → (∀ q : Nat, q < H.size → t.heap[q]? = H[q]?) → XC cls s t)
    (hf : ∀ z ∈ locs, free z.base) (hc : cells + 1 ≤ mc) (hs : slots + 6 ≤ ms) :
    W p l e R s m args below meth c H locs cells slots (vx_MQ below Qc XC args s mc ms free) (F0 m pc ls rest) := by
  intro T hT X
  have htr : e.platform.stackTraces = false := (show e.platform.stackTraces = l.stackTraces by rw [X.admits.platform]).trans hl
  have Y := vx_rebase X (R' := { frames := R.frames, locals := R.locals, cells := 1, slots := 6 }) (Nat.le_refl _) (Nat.le_refl _) hRcells hRslots
  obtain ⟨s', hA⟩ : ∃ z, z = (T.setVm s.vm).setFrames (.invoking m args :: below) := ⟨_, rfl⟩
  rw [← hA] at Y
  have hvm : s'.vm = s.vm := by rw [hA]; rfl
  have hhp : s'.heap = H := by rw [hA]; exact hT
  have hW0 : s.WarmedH s'.vm := by rw [hvm]; exact State.WarmedH.refl s
  have hat' : ∀ w ∈ nsAtS own ic cls Y9 r9, w.before args s' = true := fun w hw => vx_ot_at hW0 hvm.symm (hgood w (List.mem_cons_of_mem _ (List.mem_cons_of_mem _ hw))) (hat w hw)
  have hk' : (Cond.classLink own ik cls).before args s' = true := vx_ot_at hW0 hvm.symm (hgood _ List.mem_cons_self) hk
  have hini' : (Cond.initialized cls).before args s' = true := vx_ot_at hW0 hvm.symm (hgood _ (List.mem_cons_of_mem _ List.mem_cons_self)) hini
  have hU' : vx_Zq Bundle.tN "UNASSIGNED_STACK" Bundle.steD A s' s'.heap := by rw [hhp]; exact vx_Zq.moved hW0.alike (hU.kept hS.2.1)
  have hN' : vx_Zq Bundle.tN "SUPPRESSED_SENTINEL" Bundle.listD A s' s'.heap := by rw [hhp]; exact vx_Zq.moved hW0.alike (hN.kept hS.2.1)
  have h : ∀ w ∈ nsAt own ic cls Y9 r9, w.before args s' = true := vx_own hat' (vx_isRefq hU'.1) (vx_isRefq hN'.1) hU'.2.word hN'.2.word
  have hown' : s'.vm.findClass own = some m.cls := by rw [hvm]; exact hown
  have hins : (Cond.instantiable cls 6).before args s' = true := h _ (by simp [nsAt, nsEnd])
  obtain ⟨vm₁, cX, kX, hfX, hkX, -, -, X₁, st1⟩ := Y.newCold hexec (own := own) (C := cls) (index := ik) (n := 6) hown' hk' hins hini'
    (g := F0 m pc ls rest) rfl (by rw [hb]; exact d0) (Nat.le_refl _) (Nat.le_refl _)
  generalize hT1 : (T.setVm vm₁).pushCell { cls := cX, slots := kX.instanceTypes.map defaultValue, vm := .none } = T1 at X₁ st1
  have hcat : (Value.ref T.heap.size).category = 1 := rfl
  have hcellA : T1.heap[T.heap.size]? = some (freshCell cX kX) := by rw [← hT1]; exact State.heap_pushCell_size _ _
  have d3' : decode c.code (pc + 3) = .ok (.dup, 1) := by rw [hb]; exact d3
  have d4' : decode c.code (pc + 4) = .ok (.ldc_w is, 3) := by rw [hb]; exact d4
  have hstr' : vk_R own is text sa s' := vk_R.warm hW0 hstr
  obtain ⟨U, hsteps, hrun, hend, hW, hsame, ce, hce, hO1, hO2⟩ := nsCtor X₁ hexec htr (own := own) (cls := cls) (Y9 := Y9) (r9 := r9) (ic := ic) hown' hcls hY9 hnames h (fun x hx => nomatch hx) hfX hkX hcellA (by rw [hhp, hT]; exact Nat.le_refl _) (msg := .ref sa) rfl
    (g := { method := m, pc := pc + 7, locals := ls, stack := .ref sa :: .ref T.heap.size :: .ref T.heap.size :: rest, locked := none }) rfl hsize rfl rfl (rest := rest) rfl
    (by rw [hb]; exact d7) (by rw [hb]; exact d10) hout hRframes (by simp only [List.map_cons, List.sum_cons, hcat]; omega) hlocks
  obtain ⟨f1, f2⟩ := vx_frame hsame
  rw [hhp] at f1 f2
  have hWs : s.WarmedH U.vm := State.WarmedH.trans hW0 hW
  have hcl : s.vm.findClass cls = some ce.cls := by
    rw [hvm] at hO2
    exact hO2
  have hall : s.sameButNew ({ U with vm := s.vm } : State) locs mc ms := by
    subst hA
    obtain ⟨e1, e2⟩ := hsame
    rw [State.setFrames_setFrames] at e1
    have h2 : (T.setVm s.vm).sameButNew ({ U with vm := s.vm } : State) [] (0 + 1) (0 + 6) := ⟨e1, e2⟩
    have h3 := X.same.trans h2
    rw [List.append_nil] at h3
    exact h3.mono hc hs
  refine ⟨U, ?_, .threw T.heap.size, hrun, hend, Or.inr ⟨T.heap.size, rfl, cls, ce, locs, hx U hWs.alike f1 (fun q hq => f2 q hq (fun z hz => nomatch hz)), hce, hO1, hcl, hWs, hall, hf⟩⟩
  refine st1 _ ?_
  show Steps p.tables e below (T1.setTop { method := m, pc := pc + 3, locals := ls, stack := .ref T.heap.size :: rest, locked := none }) _
  jvm_step X₁.here [X₁.here.top, hexec, d3', Value.category]
  exact X₁.ldcStringW hexec (own := own) (text := text) (index := is) (a := sa) hown' hstr'.1 hstr'.2
    (g := { method := m, pc := pc + 4, locals := ls, stack := .ref T.heap.size :: .ref T.heap.size :: rest, locked := none }) rfl d4' _ hsteps
end NSTW
section XTHROWNW
variable {M : xM} {E : xE} {Po : xPo} {w0 w : xW} {pc : Nat} {L : List (Option Value)} {st : List Value} {k n : Nat}
theorem r_throwNSW {ik is ic i : Nat} {X Y tx : String} {r : List String} (hX : Bundle.fit X = true) (hY : Bundle.fit Y = true) (hnm : ∀ n ∈ r, Bundle.fit n = true) (hc : X ∈ xCa) (hM : ∀ w ∈ xAll, w ∈ mW M) (ht : nsThr (mY M).cls ic X Y r) (hk : Cond.classLink (mY M).cls ik X ∈ xAll) (hini : Cond.initialized X ∈ xAll) (hi : xStr[i]? = some ((mY M).cls, is, tx))
    (d0 : decode (mC M) pc = .ok (.new ik, 3)) (d3 : decode (mC M) (pc + 3) = .ok (.dup, 1)) (d4 : decode (mC M) (pc + 4) = .ok (.ldc_w is, 3)) (d7 : decode (mC M) (pc + 7) = .ok (.invokespecial ic, 3)) (d10 : decode (mC M) (pc + 10) = .ok (.athrow, 1)) (hH : mH M = [])
    (r1 : r.length + 4 < (mR M).frames) (r2 : (st.map fun v => v.category).sum + (13 * (r.length + 2) + 43) ≤ (mR M).locals) (r3 : k + 1 ≤ (mR M).cells) (r4 : n + 6 ≤ (mR M).slots) (r5 : k + 1 ≤ mK M) (r6 : n + 6 ≤ mN M) (hpo : ∀ z, w.2 ≤ z → Po (.inr X) (w.1, z)) : WF M E Po w0 pc L st w k n := by
  intro p l e s m args below meth c H locs ls C hP hs hS hl
  obtain ⟨c1, c2, c3, c4, c5, c6, c7, c8, c9, c10, c11, c12⟩ := id C
  exact nsThrowW c1 c2 c8 c6 hX hY hnm (c5 _ (hM _ hk)) (c5 _ (hM _ hini)) (c11.2.2.1 i _ hi) (ht.hat hc (fun w hw => c5 w (hM w hw)) c11.2.2.2.2.2.2.2.2.1) (ht.good hk hini) c11.2.1.1 c11.2.1.2 hS (hl.1.trans c4.symm) d0 d3 d4 d7 d10 (fun x hx => by rw [c9, hH] at hx; exact absurd hx List.not_mem_nil) r1 r2 r3 r4 c7 (xThr.out hP hs hS hpo) hS.2.2 r5 r6
end XTHROWNW
set_option maxRecDepth 100000 in
set_option maxHeartbeats 4000000 in
theorem ct_X9_torn {E : xE} {Po : xPo} {w : xW} {x : Nat} {h : xHi} {t s : Int32} (H : HI E w x h) (hp : if okT (h.1 0) t then (if s < 0 ∨ 8 ≤ s then ∀ u, HI E u x h → Fr w u x h → Po (.inr "java/lang/IndexOutOfBoundsException") u else if 0 ≤ tfS ((h.1 0).2.1 t.toNatClampNeg 2) (8 - s.toNatClampNeg) s.toNatClampNeg then Po (.inl (some (.int (tfS ((h.1 0).2.1 t.toNatClampNeg 2) (8 - s.toNatClampNeg) s.toNatClampNeg)))) w else ∀ u, HI E u x h → Fr w u x h → Po (.inr "java/util/NoSuchElementException") u) else ∀ u, HI E u x h → Fr w u x h → Po (.inr "java/lang/IndexOutOfBoundsException") u) : Ct M_X9_torn E [.ref x, .int t, .int s] w Po := by
  refine Ct.of (ws2 := xAll) (L := [some (.ref x), some (.int t), some (.int s), none, none]) (by decide +kernel) rfl rfl (List.forall_mem_cons.mpr ⟨rfl, List.forall_mem_cons.mpr ⟨rfl, List.forall_mem_cons.mpr ⟨rfl, fun _ h => absurd h List.not_mem_nil⟩⟩⟩) (Nat.le_of_ble_eq_true rfl) rfl ?_
  refine r_aload_n (q := 1) dX9_torn_0 rfl rfl rfl ?_
  refine r_getfield (q := 4) dX9_torn_1 f_X9_torn_10 H.1.1 rfl rfl ?_
  refine r_iload_n (q := 5) dX9_torn_4 rfl rfl rfl ?_
  refine r_callV (q := 8) (ci := 7) (As := [_]) dX9_torn_5 s_X9_torn_62 (H.2.1.1 0 (by decide)) rfl rfl rfl (Nat.le_of_ble_eq_true rfl) rfl rfl rfl (Nat.le_of_ble_eq_true rfl) (Nat.le_of_ble_eq_true rfl) ⟨(Nat.le_of_ble_eq_true rfl), (Nat.le_of_ble_eq_true rfl)⟩ rfl ?_
  by_cases ht : okT (h.1 0) t
  · rw [if_pos ht] at hp
    obtain ⟨j, hj, rfl⟩ := ht.ix
    rw [nI_cl (by omega)] at hp
    refine Ct.cw H.2.1.1.eq.symm (ct_X5_tubAt_in hj ht ?_)
    show WF _ E Po _ _ _ _ _ _ _
    refine WF.cw H.2.1.1.eq ?_
    refine r_astore_n (q := 9) dX9_torn_8 rfl (Nat.le_of_ble_eq_true rfl) (xone_of rfl) rfl ?_
    refine r_aload_n (q := 10) dX9_torn_9 rfl rfl rfl ?_
    refine r_ifnull (q := 13) dX9_torn_10 rfl ?_
    refine r_iload_n (q := 14) dX9_torn_13 rfl rfl rfl ?_
    refine r_callS (q := 17) (As := [_]) dX9_torn_14 s_X9_torn_83 rfl rfl (Nat.le_of_ble_eq_true rfl) rfl rfl rfl (Nat.le_of_ble_eq_true rfl) (Nat.le_of_ble_eq_true rfl) ⟨(Nat.le_of_ble_eq_true rfl), (Nat.le_of_ble_eq_true rfl)⟩ rfl ?_
    refine ct_X8_hasSeam ?_
    show WF _ E Po _ _ _ _ _ _ _
    rcases Classical.em (s < 0 ∨ 8 ≤ s) with e0 | e0
    · rw [if_pos e0] at hp ⊢
      refine r_if_ne (q := 30) (q2 := 20) dX9_torn_17 (by decide) rfl (fun h9 => absurd rfl h9) (fun _ => ?_)
      exact r_throwS (i := 5) (by decide +kernel) th_nm (by decide) (fun _ h => List.mem_cons_of_mem _ h) th_IO tk_IO ti_IO rfl dX9_torn_20 dX9_torn_23 dX9_torn_24 dX9_torn_26 dX9_torn_29 rfl (Nat.le_of_ble_eq_true rfl) (Nat.le_of_ble_eq_true rfl) (Nat.le_of_ble_eq_true rfl) (Nat.le_of_ble_eq_true rfl) (Nat.le_of_ble_eq_true rfl) (Nat.le_of_ble_eq_true rfl) (fun z hz => hp _ (H.sz hz) (Fr.id.sz hz))
    · rw [if_neg e0] at hp ⊢
      obtain ⟨k, hk, rfl⟩ := ixOf (n := 8) (by decide) (fun z => e0 (Or.inl z)) (fun z => e0 (Or.inr z))
      rw [nI_cl (by omega)] at hp
      refine r_if_ne (q := 30) (q2 := 20) dX9_torn_17 (by decide) rfl (fun _ => ?_) (fun h9 => absurd h9 (by decide))
      refine r_aload_n (q := 31) dX9_torn_30 rfl rfl rfl ?_
      refine r_iload_n (q := 32) dX9_torn_31 rfl rfl rfl ?_
      refine r_callV (q := 35) (ci := 10) (As := [_]) dX9_torn_32 s_X9_torn_89 (H.2.1.1.atT hj) rfl rfl rfl (Nat.le_of_ble_eq_true rfl) rfl rfl rfl (Nat.le_of_ble_eq_true rfl) (Nat.le_of_ble_eq_true rfl) ⟨(Nat.le_of_ble_eq_true rfl), (Nat.le_of_ble_eq_true rfl)⟩ rfl ?_
      refine ct_X8_tornFrom (j := k) (H.2.1.1.atT hj) (by omega) ?_
      show WF _ E Po _ _ _ _ _ _ _
      refine r_istore (q := 37) dX9_torn_35 (Nat.le_of_ble_eq_true rfl) (xone_of rfl) rfl ?_
      refine r_iload (q := 39) dX9_torn_37 rfl rfl ?_
      refine r_if_ge (q := 52) (q2 := 42) dX9_torn_39 (by decide) rfl (fun h39 => ?_) (fun h39 => ?_)
      · rw [if_pos h39] at hp
        refine r_iload (q := 54) dX9_torn_52 rfl rfl ?_
        refine r_iret dX9_torn_54 rfl (Nat.le_of_ble_eq_true rfl) (Nat.le_of_ble_eq_true rfl) ?_
        exact hp
      · rw [if_neg h39] at hp
        exact r_throwNS (i := 6) (by decide +kernel) (by decide +kernel) th_nm1 (by decide) (fun _ h => List.mem_cons_of_mem _ h) th_NS tk_NS ti_NS rfl dX9_torn_42 dX9_torn_45 dX9_torn_46 dX9_torn_48 dX9_torn_51 rfl (Nat.le_of_ble_eq_true rfl) (Nat.le_of_ble_eq_true rfl) (Nat.le_of_ble_eq_true rfl) (Nat.le_of_ble_eq_true rfl) (Nat.le_of_ble_eq_true rfl) (Nat.le_of_ble_eq_true rfl) (fun z hz => hp _ (H.sz hz) (Fr.id.sz hz))
  · rw [if_neg ht] at hp
    refine Ct.cw H.2.1.1.eq.symm (ct_X5_tubAt_out ht ?_)
    show WF _ E Po _ _ _ _ _ _ _
    refine WF.cw H.2.1.1.eq ?_
    refine r_astore_nN (q := 9) dX9_torn_8 rfl (Nat.le_of_ble_eq_true rfl) (xone_of rfl) rfl ?_
    refine r_aload_nN (q := 10) dX9_torn_9 rfl rfl rfl ?_
    refine r_ifnullN (q := 20) dX9_torn_10 (by decide) ?_
    exact r_throwS (i := 5) (by decide +kernel) th_nm (by decide) (fun _ h => List.mem_cons_of_mem _ h) th_IO tk_IO ti_IO rfl dX9_torn_20 dX9_torn_23 dX9_torn_24 dX9_torn_26 dX9_torn_29 rfl (Nat.le_of_ble_eq_true rfl) (Nat.le_of_ble_eq_true rfl) (Nat.le_of_ble_eq_true rfl) (Nat.le_of_ble_eq_true rfl) (Nat.le_of_ble_eq_true rfl) (Nat.le_of_ble_eq_true rfl) (fun z hz => hp _ (H.sz hz) (Fr.id.sz hz))
set_option maxRecDepth 100000 in
set_option maxHeartbeats 4000000 in
theorem ct_X9_waiting {E : xE} {Po : xPo} {w : xW} {x : Nat} {h : xHi} {t s : Int32} (H : HI E w x h) (hp : if okU (h.1 0) t then (if 0 ≤ gAtS ((h.1 0).2.2.1 t.toNatClampNeg) s then Po (.inl (some (.int (gAtS ((h.1 0).2.2.1 t.toNatClampNeg) s)))) w else ∀ u, HI E u x h → Fr w u x h → Po (.inr "java/util/NoSuchElementException") u) else ∀ u, HI E u x h → Fr w u x h → Po (.inr "java/lang/IndexOutOfBoundsException") u) : Ct M_X9_waiting E [.ref x, .int t, .int s] w Po := by
  refine Ct.of (ws2 := xAll) (L := [some (.ref x), some (.int t), some (.int s), none, none]) (by decide +kernel) rfl rfl (List.forall_mem_cons.mpr ⟨rfl, List.forall_mem_cons.mpr ⟨rfl, List.forall_mem_cons.mpr ⟨rfl, fun _ h => absurd h List.not_mem_nil⟩⟩⟩) (Nat.le_of_ble_eq_true rfl) rfl ?_
  refine r_aload_n (q := 1) dX9_waiting_0 rfl rfl rfl ?_
  refine r_getfield (q := 4) dX9_waiting_1 f_X9_waiting_10 H.1.1 rfl rfl ?_
  refine r_iload_n (q := 5) dX9_waiting_4 rfl rfl rfl ?_
  refine r_callV (q := 8) (ci := 7) (As := [_]) dX9_waiting_5 s_X9_waiting_119 (H.2.1.1 0 (by decide)) rfl rfl rfl (Nat.le_of_ble_eq_true rfl) rfl rfl rfl (Nat.le_of_ble_eq_true rfl) (Nat.le_of_ble_eq_true rfl) ⟨(Nat.le_of_ble_eq_true rfl), (Nat.le_of_ble_eq_true rfl)⟩ rfl ?_
  by_cases ht : okU (h.1 0) t
  · rw [if_pos ht] at hp
    obtain ⟨j, hj, rfl⟩ := ht.ix
    rw [nI_cl (by omega)] at hp
    refine Ct.cw H.2.1.1.eq.symm (ct_X5_tentAt_in hj ht ?_)
    show WF _ E Po _ _ _ _ _ _ _
    refine WF.cw H.2.1.1.eq ?_
    refine r_astore_n (q := 9) dX9_waiting_8 rfl (Nat.le_of_ble_eq_true rfl) (xone_of rfl) rfl ?_
    refine r_aload_n (q := 10) dX9_waiting_9 rfl rfl rfl ?_
    refine r_ifnonnull (q := 23) dX9_waiting_10 (by decide) ?_
    refine r_aload_n (q := 24) dX9_waiting_23 rfl rfl rfl ?_
    refine r_iload_n (q := 25) dX9_waiting_24 rfl rfl rfl ?_
    refine r_callV (q := 28) (ci := 8) (As := [_]) dX9_waiting_25 s_X9_waiting_130 (H.2.1.1.atU hj) rfl rfl rfl (Nat.le_of_ble_eq_true rfl) rfl rfl rfl (Nat.le_of_ble_eq_true rfl) (Nat.le_of_ble_eq_true rfl) ⟨(Nat.le_of_ble_eq_true rfl), (Nat.le_of_ble_eq_true rfl)⟩ rfl ?_
    refine ct_X6_guestAt (H.2.1.1.atU hj) (H.2.1.1.atV hj) ?_
    show WF _ E Po _ _ _ _ _ _ _
    refine r_istore (q := 30) dX9_waiting_28 (Nat.le_of_ble_eq_true rfl) (xone_of rfl) rfl ?_
    refine r_iload (q := 32) dX9_waiting_30 rfl rfl ?_
    refine r_if_ge (q := 45) (q2 := 35) dX9_waiting_32 (by decide) rfl (fun h32 => ?_) (fun h32 => ?_)
    · rw [if_pos h32] at hp
      refine r_iload (q := 47) dX9_waiting_45 rfl rfl ?_
      refine r_iret dX9_waiting_47 rfl (Nat.le_of_ble_eq_true rfl) (Nat.le_of_ble_eq_true rfl) ?_
      exact hp
    · rw [if_neg h32] at hp
      exact r_throwNS (i := 10) (by decide +kernel) (by decide +kernel) th_nm1 (by decide) (fun _ h => List.mem_cons_of_mem _ h) th_NS tk_NS ti_NS rfl dX9_waiting_35 dX9_waiting_38 dX9_waiting_39 dX9_waiting_41 dX9_waiting_44 rfl (Nat.le_of_ble_eq_true rfl) (Nat.le_of_ble_eq_true rfl) (Nat.le_of_ble_eq_true rfl) (Nat.le_of_ble_eq_true rfl) (Nat.le_of_ble_eq_true rfl) (Nat.le_of_ble_eq_true rfl) (fun z hz => hp _ (H.sz hz) (Fr.id.sz hz))
  · rw [if_neg ht] at hp
    refine Ct.cw H.2.1.1.eq.symm (ct_X5_tentAt_out ht ?_)
    show WF _ E Po _ _ _ _ _ _ _
    refine WF.cw H.2.1.1.eq ?_
    refine r_astore_nN (q := 9) dX9_waiting_8 rfl (Nat.le_of_ble_eq_true rfl) (xone_of rfl) rfl ?_
    refine r_aload_nN (q := 10) dX9_waiting_9 rfl rfl rfl ?_
    refine r_ifnonnullN (q := 13) dX9_waiting_10 rfl ?_
    exact r_throwS (i := 8) (by decide +kernel) th_nm (by decide) (fun _ h => List.mem_cons_of_mem _ h) th_IO tk_IO ti_IO rfl dX9_waiting_13 dX9_waiting_16 dX9_waiting_17 dX9_waiting_19 dX9_waiting_22 rfl (Nat.le_of_ble_eq_true rfl) (Nat.le_of_ble_eq_true rfl) (Nat.le_of_ble_eq_true rfl) (Nat.le_of_ble_eq_true rfl) (Nat.le_of_ble_eq_true rfl) (Nat.le_of_ble_eq_true rfl) (fun z hz => hp _ (H.sz hz) (Fr.id.sz hz))
set_option maxRecDepth 100000 in
set_option maxHeartbeats 4000000 in
theorem ct_X9_bestTub {E : xE} {Po : xPo} {w : xW} {x : Nat} {h : xHi} {N : Nat} (H : HI E w x h) (hN : N ≤ 8) (eN : (h.1 0).1 1 = nI N) (hp : if 0 ≤ bsI (bestF (h.1 0) N) then Po (.inl (some (.int (bsI (bestF (h.1 0) N))))) w else ∀ u, HI E u x h → Fr w u x h → Po (.inr "java/util/NoSuchElementException") u) : Ct M_X9_bestTub E [.ref x] w Po := by
  refine Ct.of (ws2 := xAll) (L := [some (.ref x), none]) (by decide +kernel) rfl rfl (List.forall_mem_cons.mpr ⟨rfl, fun _ h => absurd h List.not_mem_nil⟩) (Nat.le_of_ble_eq_true rfl) rfl ?_
  refine r_aload_n (q := 1) dX9_bestTub_0 rfl rfl rfl ?_
  refine r_getfield (q := 4) dX9_bestTub_1 f_X9_bestTub_10 H.1.1 rfl rfl ?_
  refine r_callV (q := 7) (ci := 7) (As := []) dX9_bestTub_4 s_X9_bestTub_104 (H.2.1.1 0 (by decide)) rfl rfl rfl (Nat.le_of_ble_eq_true rfl) rfl rfl rfl (Nat.le_of_ble_eq_true rfl) (Nat.le_of_ble_eq_true rfl) ⟨(Nat.le_of_ble_eq_true rfl), (Nat.le_of_ble_eq_true rfl)⟩ rfl ?_
  refine Ct.cw H.2.1.1.eq.symm (ct_X5_bestStored hN eN ?_)
  show WF _ E Po _ _ _ _ _ _ _
  refine WF.cw H.2.1.1.eq ?_
  refine r_istore_n (q := 8) dX9_bestTub_7 rfl (Nat.le_of_ble_eq_true rfl) (xone_of rfl) rfl ?_
  refine r_iload_n (q := 9) dX9_bestTub_8 rfl rfl rfl ?_
  refine r_if_ge (q := 22) (q2 := 12) dX9_bestTub_9 (by decide) rfl (fun h9 => ?_) (fun h9 => ?_)
  · rw [if_pos h9] at hp
    refine r_iload_n (q := 23) dX9_bestTub_22 rfl rfl rfl ?_
    refine r_iret dX9_bestTub_23 rfl (Nat.le_of_ble_eq_true rfl) (Nat.le_of_ble_eq_true rfl) ?_
    exact hp
  · rw [if_neg h9] at hp
    exact r_throwNS (i := 7) (by decide +kernel) (by decide +kernel) th_nm1 (by decide) (fun _ h => List.mem_cons_of_mem _ h) th_NS tk_NS ti_NS rfl dX9_bestTub_12 dX9_bestTub_15 dX9_bestTub_16 dX9_bestTub_18 dX9_bestTub_21 rfl (Nat.le_of_ble_eq_true rfl) (Nat.le_of_ble_eq_true rfl) (Nat.le_of_ble_eq_true rfl) (Nat.le_of_ble_eq_true rfl) (Nat.le_of_ble_eq_true rfl) (Nat.le_of_ble_eq_true rfl) (fun z hz => hp _ (H.sz hz) (Fr.id.sz hz))
set_option maxRecDepth 100000 in
set_option maxHeartbeats 4000000 in
theorem ct_X9_refusal {E : xE} {Po : xPo} {w : xW} {x : Nat} {h : xHi} {z : Int32} (H : HI E w x h) (hp : if (h.1 0).1 10 = 0 then ∀ u, HI E u x h → Fr w u x h → Po (.inr "java/util/NoSuchElementException") u else if z = 0 then Po (.inl (some (.int ((h.1 0).1 11)))) w else Po (.inl (some (.int ((h.1 0).1 10)))) w) : Ct M_X9_refusal E [.ref x, .int z] w Po := by
  refine Ct.of (ws2 := xAll) (L := [some (.ref x), some (.int z)]) (by decide +kernel) rfl rfl (List.forall_mem_cons.mpr ⟨rfl, List.forall_mem_cons.mpr ⟨rfl, fun _ h => absurd h List.not_mem_nil⟩⟩) (Nat.le_of_ble_eq_true rfl) rfl ?_
  refine r_aload_n (q := 1) dX9_refusal_0 rfl rfl rfl ?_
  refine r_getfield (q := 4) dX9_refusal_1 f_X9_refusal_10 H.1.1 rfl rfl ?_
  refine r_getfield (q := 7) dX9_refusal_4 f_X9_refusal_296 (H.2.1.1 0 (by decide)) (by rfl) rfl ?_
  refine r_getfield (q := 10) dX9_refusal_7 f_X9_refusal_300 (H.2.1.1 1 (by decide)) (by rfl) rfl ?_
  refine r_if_ne (q := 24) (q2 := 13) dX9_refusal_10 (by decide) rfl (fun h10 => ?_) (fun h10 => ?_)
  · rw [if_neg h10] at hp
    refine r_iload_n (q := 25) dX9_refusal_24 rfl rfl rfl ?_
    refine r_if_eq (q := 41) (q2 := 28) dX9_refusal_25 (by decide) rfl (fun h25 => ?_) (fun h25 => ?_)
    · rw [if_pos h25] at hp
      refine r_aload_n (q := 42) dX9_refusal_41 rfl rfl rfl ?_
      refine r_getfield (q := 45) dX9_refusal_42 f_X9_refusal_10 H.1.1 rfl rfl ?_
      refine r_getfield (q := 48) dX9_refusal_45 f_X9_refusal_296 (H.2.1.1 0 (by decide)) (by rfl) rfl ?_
      refine r_getfield (q := 51) dX9_refusal_48 f_X9_refusal_307 (H.2.1.1 1 (by decide)) (by rfl) rfl ?_
      refine r_iret dX9_refusal_51 rfl (Nat.le_of_ble_eq_true rfl) (Nat.le_of_ble_eq_true rfl) ?_
      exact hp
    · rw [if_neg h25] at hp
      refine r_aload_n (q := 29) dX9_refusal_28 rfl rfl rfl ?_
      refine r_getfield (q := 32) dX9_refusal_29 f_X9_refusal_10 H.1.1 rfl rfl ?_
      refine r_getfield (q := 35) dX9_refusal_32 f_X9_refusal_296 (H.2.1.1 0 (by decide)) (by rfl) rfl ?_
      refine r_getfield (q := 38) dX9_refusal_35 f_X9_refusal_300 (H.2.1.1 1 (by decide)) (by rfl) rfl ?_
      refine r_goto (q := 51) dX9_refusal_38 (by decide) ?_
      refine r_iret dX9_refusal_51 rfl (Nat.le_of_ble_eq_true rfl) (Nat.le_of_ble_eq_true rfl) ?_
      exact hp
  · rw [if_pos h10] at hp
    exact r_throwNSW (i := 25) (by decide +kernel) (by decide +kernel) th_nm1 (by decide) (fun _ h => List.mem_cons_of_mem _ h) th_NS tk_NS ti_NS rfl dX9_refusal_13 dX9_refusal_16 dX9_refusal_17 dX9_refusal_20 dX9_refusal_23 rfl (Nat.le_of_ble_eq_true rfl) (Nat.le_of_ble_eq_true rfl) (Nat.le_of_ble_eq_true rfl) (Nat.le_of_ble_eq_true rfl) (Nat.le_of_ble_eq_true rfl) (Nat.le_of_ble_eq_true rfl) (fun z hz => hp _ (H.sz hz) (Fr.id.sz hz))
set_option maxRecDepth 100000 in
set_option maxHeartbeats 4000000 in
theorem ct_X9_bathedShare {E : xE} {Po : xPo} {w : xW} {x : Nat} {h : xHi} (H : HI E w x h) (hne : ¬ (h.1 0).1 8 = 0 → vf_n32 (FP.fdiv (FP.i2f ((h.1 0).1 9)) (FP.i2f ((h.1 0).1 8)))) (hp : if (h.1 0).1 8 = 0 then ∀ u, HI E u x h → Fr w u x h → Po (.inr "java/lang/ArithmeticException") u else Po (.inl (some (.float (FP.fdiv (FP.i2f ((h.1 0).1 9)) (FP.i2f ((h.1 0).1 8)))))) w) : Ct M_X9_bathedShare E [.ref x] w Po := by
  refine Ct.of (ws2 := xAll) (L := [some (.ref x)]) (by decide +kernel) rfl rfl (List.forall_mem_cons.mpr ⟨rfl, fun _ h => absurd h List.not_mem_nil⟩) (Nat.le_of_ble_eq_true rfl) rfl ?_
  refine r_aload_n (q := 1) dX9_bathedShare_0 rfl rfl rfl ?_
  refine r_getfield (q := 4) dX9_bathedShare_1 f_X9_bathedShare_10 H.1.1 rfl rfl ?_
  refine r_getfield (q := 7) dX9_bathedShare_4 f_X9_bathedShare_244 (H.2.1.1 0 (by decide)) (by rfl) rfl ?_
  refine r_if_ne (q := 21) (q2 := 10) dX9_bathedShare_7 (by decide) rfl (fun h7 => ?_) (fun h7 => ?_)
  · rw [if_neg h7] at hp
    refine r_aload_n (q := 22) dX9_bathedShare_21 rfl rfl rfl ?_
    refine r_getfield (q := 25) dX9_bathedShare_22 f_X9_bathedShare_10 H.1.1 rfl rfl ?_
    refine r_getfield (q := 28) dX9_bathedShare_25 f_X9_bathedShare_247 (H.2.1.1 0 (by decide)) (by rfl) rfl ?_
    refine r_i2f (q := 29) dX9_bathedShare_28 rfl ?_
    refine r_aload_n (q := 30) dX9_bathedShare_29 rfl rfl rfl ?_
    refine r_getfield (q := 33) dX9_bathedShare_30 f_X9_bathedShare_10 H.1.1 rfl rfl ?_
    refine r_getfield (q := 36) dX9_bathedShare_33 f_X9_bathedShare_244 (H.2.1.1 0 (by decide)) (by rfl) rfl ?_
    refine r_i2f (q := 37) dX9_bathedShare_36 rfl ?_
    refine r_fdiv (q := 38) dX9_bathedShare_37 (hne h7) rfl ?_
    refine r_fret dX9_bathedShare_38 rfl (Nat.le_of_ble_eq_true rfl) (Nat.le_of_ble_eq_true rfl) ?_
    exact hp
  · rw [if_pos h7] at hp
    exact r_throwSW (i := 20) (by decide +kernel) th_nm (by decide) (fun _ h => List.mem_cons_of_mem _ h) th_AR tk_AR ti_AR rfl dX9_bathedShare_10 dX9_bathedShare_13 dX9_bathedShare_14 dX9_bathedShare_17 dX9_bathedShare_20 rfl (Nat.le_of_ble_eq_true rfl) (Nat.le_of_ble_eq_true rfl) (Nat.le_of_ble_eq_true rfl) (Nat.le_of_ble_eq_true rfl) (Nat.le_of_ble_eq_true rfl) (Nat.le_of_ble_eq_true rfl) (fun z hz => hp _ (H.sz hz) (Fr.id.sz hz))
def cmS (d : xCo) (k : Nat) : Int32 := if d.2.1 k 3 ≤ 0 then 0 else d.2.1 k 4
def ccS (d : xCo) (k : Nat) : Int32 := if d.2.1 k 3 ≤ 0 then 0 else 1
theorem okT_i {d : xCo} {N i : Nat} (hN : N ≤ 8) (eN : d.1 1 = nI N) (hi : i < N) : okT d (nI i) := by
  refine ⟨nI_pos (by omega), fun q => ?_, fun q => ?_⟩
  · rw [eN] at q
    have := (nI_leI (by omega) (by omega)).mp q; omega
  · have := (nI_leI (a := 8) (by omega) (by omega)).mp q; omega
set_option maxRecDepth 100000 in
set_option maxHeartbeats 4000000 in
theorem lp_X9_mean {E : xE} {Po : xPo} {w0 w : xW} {x : Nat} {h : xHi} {N : Nat} (H : HI E w x h) (hN : N ≤ 8) (eN : (h.1 0).1 1 = nI N) (hne : ¬ sumS (ccS (h.1 0)) N = 0 → vf_n64 (FP.ddiv (FP.i2d (sumS (cmS (h.1 0)) N)) (FP.i2d (sumS (ccS (h.1 0)) N)))) (hp : if sumS (ccS (h.1 0)) N = 0 then ∀ u, HI E u x h → Fr w u x h → Po (.inr "java/lang/ArithmeticException") u else Po (.inl (some (.double (FP.ddiv (FP.i2d (sumS (cmS (h.1 0)) N)) (FP.i2d (sumS (ccS (h.1 0)) N)))))) w) (n : Nat) : ∀ (i : Nat) (o4 : Option Value) (hi : i ≤ N) (hn : N - i < n), WF M_X9_meanWarmth E Po w0 6 [some (.ref x), some (.int (sumS (ccS (h.1 0)) i)), some (.int (sumS (cmS (h.1 0)) i)), some (.int (nI i)), o4] [] w 0 0 := by
  induction n with
  | zero => intro i o4 hi hn; exact absurd hn (Nat.not_lt_zero _)
  | succ n ih =>
    intro i o4 hi hn
    refine r_iload_n (q := 7) dX9_meanWarmth_6 rfl rfl rfl ?_
    refine r_aload_n (q := 8) dX9_meanWarmth_7 rfl rfl rfl ?_
    refine r_getfield (q := 11) dX9_meanWarmth_8 f_X9_meanWarmth_10 H.1.1 rfl rfl ?_
    refine r_getfield (q := 14) dX9_meanWarmth_11 f_X9_meanWarmth_250 (H.2.1.1 0 (by decide)) (by rfl) rfl ?_
    rw [eN]
    refine r_icmp_ge (q := 57) (q2 := 17) dX9_meanWarmth_14 (by decide) rfl (fun h14 => ?_) (fun h14 => ?_)
    · obtain rfl : i = N := by have := (nI_leI (by omega) (by omega)).mp h14; omega
      refine r_iload_n (q := 58) dX9_meanWarmth_57 rfl rfl rfl ?_
      refine r_if_ne (q := 72) (q2 := 61) dX9_meanWarmth_58 (by decide) rfl (fun h58 => ?_) (fun h58 => ?_)
      · rw [if_neg h58] at hp
        refine r_iload_n (q := 73) dX9_meanWarmth_72 rfl rfl rfl ?_
        refine r_i2d (q := 74) dX9_meanWarmth_73 rfl ?_
        refine r_iload_n (q := 75) dX9_meanWarmth_74 rfl rfl rfl ?_
        refine r_i2d (q := 76) dX9_meanWarmth_75 rfl ?_
        refine r_ddiv (q := 77) dX9_meanWarmth_76 (hne h58) rfl ?_
        refine r_dret dX9_meanWarmth_77 rfl (Nat.le_of_ble_eq_true rfl) (Nat.le_of_ble_eq_true rfl) ?_
        exact hp
      · rw [if_pos h58] at hp
        exact r_throwSW (i := 19) (by decide +kernel) th_nm (by decide) (fun _ h => List.mem_cons_of_mem _ h) th_AR tk_AR ti_AR rfl dX9_meanWarmth_61 dX9_meanWarmth_64 dX9_meanWarmth_65 dX9_meanWarmth_68 dX9_meanWarmth_71 rfl (Nat.le_of_ble_eq_true rfl) (Nat.le_of_ble_eq_true rfl) (Nat.le_of_ble_eq_true rfl) (Nat.le_of_ble_eq_true rfl) (Nat.le_of_ble_eq_true rfl) (Nat.le_of_ble_eq_true rfl) (fun z hz => hp _ (H.sz hz) (Fr.id.sz hz))
    · have hiN : i < N := by
        have : ¬ N ≤ i := fun q => h14 ((nI_leI (by omega) (by omega)).mpr q)
        omega
      have hi8 : i < 8 := by omega
      refine r_aload_n (q := 18) dX9_meanWarmth_17 rfl rfl rfl ?_
      refine r_getfield (q := 21) dX9_meanWarmth_18 f_X9_meanWarmth_10 H.1.1 rfl rfl ?_
      refine r_iload_n (q := 22) dX9_meanWarmth_21 rfl rfl rfl ?_
      refine r_callV (q := 25) (ci := 7) (As := [_]) dX9_meanWarmth_22 s_X9_meanWarmth_62 (H.2.1.1 0 (by decide)) rfl rfl rfl (Nat.le_of_ble_eq_true rfl) rfl rfl rfl (Nat.le_of_ble_eq_true rfl) (Nat.le_of_ble_eq_true rfl) ⟨(Nat.le_of_ble_eq_true rfl), (Nat.le_of_ble_eq_true rfl)⟩ rfl ?_
      refine Ct.cw H.2.1.1.eq.symm (ct_X5_tubAt_in hi8 (okT_i hN eN hiN) ?_)
      show WF _ E Po _ _ _ _ _ _ _
      refine WF.cw H.2.1.1.eq ?_
      refine r_astore (q := 27) dX9_meanWarmth_25 (Nat.le_of_ble_eq_true rfl) (xone_of rfl) rfl ?_
      refine r_aload (q := 29) dX9_meanWarmth_27 rfl rfl ?_
      refine r_ifnull (q := 32) dX9_meanWarmth_29 rfl ?_
      refine r_aload (q := 34) dX9_meanWarmth_32 rfl rfl ?_
      refine r_getfield (q := 37) dX9_meanWarmth_34 f_X9_meanWarmth_253 (H.2.1.1.atT hi8) (by rfl) rfl ?_
      refine r_if_le (q := 51) (q2 := 40) dX9_meanWarmth_37 (by decide) rfl (fun h37 => ?_) (fun h37 => ?_)
      · have hm : cmS (h.1 0) i = 0 := if_pos h37
        have hc : ccS (h.1 0) i = 0 := if_pos h37
        have sm : sumS (cmS (h.1 0)) (i + 1) = sumS (cmS (h.1 0)) i := by rw [sumS, hm, Int32.add_zero]
        have sc : sumS (ccS (h.1 0)) (i + 1) = sumS (ccS (h.1 0)) i := by rw [sumS, hc, Int32.add_zero]
        refine r_iinc (q := 54) dX9_meanWarmth_51 rfl (Nat.le_of_ble_eq_true rfl) (xone_of rfl) rfl ?_
        rw [show nI i + Int32.ofInt 1 = nI (i + 1) from nI_1 i]
        refine r_goto (q := 6) dX9_meanWarmth_54 (by decide) ?_
        have z := ih (i + 1) (some (.ref (x + 1 + 5 + i))) (by omega) (by omega)
        rw [sm, sc] at z
        exact z
      · have hm : cmS (h.1 0) i = (h.1 0).2.1 i 4 := if_neg h37
        have hc : ccS (h.1 0) i = 1 := if_neg h37
        have sm : sumS (cmS (h.1 0)) (i + 1) = sumS (cmS (h.1 0)) i + (h.1 0).2.1 i 4 := by rw [sumS, hm]
        have sc : sumS (ccS (h.1 0)) (i + 1) = sumS (ccS (h.1 0)) i + Int32.ofInt 1 := by rw [sumS, hc]; rfl
        refine r_iinc (q := 43) dX9_meanWarmth_40 rfl (Nat.le_of_ble_eq_true rfl) (xone_of rfl) rfl ?_
        refine r_iload_n (q := 44) dX9_meanWarmth_43 rfl rfl rfl ?_
        refine r_aload (q := 46) dX9_meanWarmth_44 rfl rfl ?_
        refine r_getfield (q := 49) dX9_meanWarmth_46 f_X9_meanWarmth_256 (H.2.1.1.atT hi8) (by rfl) rfl ?_
        refine r_iadd (q := 50) dX9_meanWarmth_49 rfl ?_
        refine r_istore_n (q := 51) dX9_meanWarmth_50 rfl (Nat.le_of_ble_eq_true rfl) (xone_of rfl) rfl ?_
        refine r_iinc (q := 54) dX9_meanWarmth_51 rfl (Nat.le_of_ble_eq_true rfl) (xone_of rfl) rfl ?_
        rw [show nI i + Int32.ofInt 1 = nI (i + 1) from nI_1 i]
        refine r_goto (q := 6) dX9_meanWarmth_54 (by decide) ?_
        have z := ih (i + 1) (some (.ref (x + 1 + 5 + i))) (by omega) (by omega)
        rw [sm, sc] at z
        exact z
set_option maxRecDepth 100000 in
set_option maxHeartbeats 4000000 in
theorem ct_X9_meanWarmth {E : xE} {Po : xPo} {w : xW} {x : Nat} {h : xHi} {N : Nat} (H : HI E w x h) (hN : N ≤ 8) (eN : (h.1 0).1 1 = nI N) (hne : ¬ sumS (ccS (h.1 0)) N = 0 → vf_n64 (FP.ddiv (FP.i2d (sumS (cmS (h.1 0)) N)) (FP.i2d (sumS (ccS (h.1 0)) N)))) (hp : if sumS (ccS (h.1 0)) N = 0 then ∀ u, HI E u x h → Fr w u x h → Po (.inr "java/lang/ArithmeticException") u else Po (.inl (some (.double (FP.ddiv (FP.i2d (sumS (cmS (h.1 0)) N)) (FP.i2d (sumS (ccS (h.1 0)) N)))))) w) : Ct M_X9_meanWarmth E [.ref x] w Po := by
  refine Ct.of (ws2 := xAll) (L := [some (.ref x), none, none, none, none]) (by decide +kernel) rfl rfl (List.forall_mem_cons.mpr ⟨rfl, fun _ h => absurd h List.not_mem_nil⟩) (Nat.le_of_ble_eq_true rfl) rfl ?_
  refine r_iconst (q := 1) (v := 0) dX9_meanWarmth_0 rfl rfl ?_
  refine r_istore_n (q := 2) dX9_meanWarmth_1 rfl (Nat.le_of_ble_eq_true rfl) (xone_of rfl) rfl ?_
  refine r_iconst (q := 3) (v := 0) dX9_meanWarmth_2 rfl rfl ?_
  refine r_istore_n (q := 4) dX9_meanWarmth_3 rfl (Nat.le_of_ble_eq_true rfl) (xone_of rfl) rfl ?_
  refine r_iconst (q := 5) (v := 0) dX9_meanWarmth_4 rfl rfl ?_
  refine r_istore_n (q := 6) dX9_meanWarmth_5 rfl (Nat.le_of_ble_eq_true rfl) (xone_of rfl) rfl ?_
  exact lp_X9_mean H hN eN hne hp (N + 1) 0 _ (Nat.zero_le _) (by omega)
def hbF (x : Int32) (N : Nat) : Nat → Nat → xCo → Int32 × xCo
  | 0, _, c => (-1, c)
  | z + 1, k, c => if awtS (passS c 1).2 x N 0 = 0 then (nI k, (passS c 1).2) else hbF x N z (k + 1) (passS c 1).2
set_option maxRecDepth 100000 in
set_option maxHeartbeats 4000000 in
theorem lp_X9_hub {E : xE} {Po : xPo} {w0 w : xW} {x : Nat} {h0 : xHi} {g : Int32} {N : Nat} {r9 : Int32 × xCo} (inv : xCo → Prop) (hi : ∀ c, inv c → inC c ∧ N ≤ 5 ∧ c.1 2 = nI N ∧ inv (passS c 1).2) (hp : ∀ u h, HI E u x h → (∃ c, h = upS h0 1 c) → Fr w u x h0 → Po (.inl (some (.int r9.1))) u) (n : Nat) : ∀ (z k : Nat) (u : xW) (h : xHi) (hz : k + z = 61) (H : HI E u x h) (hh : ∃ c, h = upS h0 1 c) (f : Fr w u x h0) (hv : inv (h.1 1)) (hr : hbF g N z k (h.1 1) = r9) (hn : z < n), WF M_X9_hoursUntilBath E Po w0 13 [some (.ref x), some (.int g), some (.int (nI k))] [] u 0 0 := by
  induction n with
  | zero => intro z k u h hz H hh f hv hr hn; exact absurd hn (Nat.not_lt_zero _)
  | succ n ih =>
    intro z k u h hz H hh f hv hr hn
    refine r_iload_n (q := 14) dX9_hoursUntilBath_13 rfl rfl rfl ?_
    refine r_bipush (q := 16) (v := 60) dX9_hoursUntilBath_14 (by decide) rfl ?_
    refine r_icmp_gt (q := 47) (q2 := 19) dX9_hoursUntilBath_16 (by decide) rfl (fun h16 => ?_) (fun h16 => ?_)
    · obtain rfl : z = 0 := by
        have : ¬ k < 61 := fun q => Int32.not_le.mpr h16 (nI_le (a := k) (b := 60) (by omega) (by decide))
        omega
      have hr1 : r9.1 = -1 := by rw [← hr]; rfl
      refine r_iconst (q := 48) (v := (-1)) dX9_hoursUntilBath_47 rfl rfl ?_
      refine r_iret dX9_hoursUntilBath_48 rfl (Nat.le_of_ble_eq_true rfl) (Nat.le_of_ble_eq_true rfl) ?_
      rw [← hr1]
      exact hp _ _ H hh f
    · have hk : k ≤ 60 := by
        have : ¬ 60 < k := fun q => h16 (nI_lt (a := 60) q (by omega))
        omega
      obtain ⟨z2, rfl⟩ : ∃ q, z = q + 1 := ⟨z - 1, by omega⟩
      rw [hbF] at hr
      obtain ⟨i1, i2, i3, i4⟩ := hi _ hv
      obtain ⟨j1, -, j3, -⟩ := hi _ i4
      refine r_aload_n (q := 20) dX9_hoursUntilBath_19 rfl rfl rfl ?_
      refine r_getfield (q := 23) dX9_hoursUntilBath_20 f_X9_hoursUntilBath_16 H.1.1 rfl rfl ?_
      refine r_iconst (q := 24) (v := 1) dX9_hoursUntilBath_23 rfl rfl ?_
      refine r_callV (q := 27) (ci := 7) (As := [_]) dX9_hoursUntilBath_24 s_X9_hoursUntilBath_170 (H.2.1.2.1 0 (by decide)) rfl rfl rfl (Nat.le_of_ble_eq_true rfl) rfl rfl rfl (Nat.le_of_ble_eq_true rfl) (Nat.le_of_ble_eq_true rfl) ⟨(Nat.le_of_ble_eq_true rfl), (Nat.le_of_ble_eq_true rfl)⟩ rfl ?_
      refine Ct.cw H.2.1.2.1.eq.symm (ct_X5_letHoursGo i1 ?_)
      show WF _ E Po _ _ _ _ _ _ _
      have H2 := H.st1 (c := (passS (h.1 1) 1).2)
      have f2 := f.sto (E := E) (c := (passS (h.1 1) 1).2) (b := x + 28) (by omega) (by omega)
      have S2 : hasS E (sto E u (x + 28) (passS (h.1 1) 1).2) (x + 28) (passS (h.1 1) 1).2 := hasS_self
      have hh2 : ∃ c, upS h 1 (passS (h.1 1) 1).2 = upS h0 1 c := by
        obtain ⟨c, rfl⟩ := hh
        refine ⟨(passS ((upS h0 1 c).1 1) 1).2, ?_⟩
        unfold upS
        refine Prod.ext ?_ rfl
        funext j
        by_cases e : j = 1 <;> simp [e]
      refine r_pop (q := 28) dX9_hoursUntilBath_27 rfl rfl ?_
      refine r_aload_n (q := 29) dX9_hoursUntilBath_28 rfl rfl rfl ?_
      refine r_getfield (q := 32) dX9_hoursUntilBath_29 f_X9_hoursUntilBath_16 H2.1.1 rfl rfl ?_
      refine r_iload_n (q := 33) dX9_hoursUntilBath_32 rfl rfl rfl ?_
      refine r_callV (q := 36) (ci := 7) (As := [_]) dX9_hoursUntilBath_33 s_X9_hoursUntilBath_183 (S2 0 (by decide)) rfl rfl rfl (Nat.le_of_ble_eq_true rfl) rfl rfl rfl (Nat.le_of_ble_eq_true rfl) (Nat.le_of_ble_eq_true rfl) ⟨(Nat.le_of_ble_eq_true rfl), (Nat.le_of_ble_eq_true rfl)⟩ rfl ?_
      refine ct_X5_awaits i2 j1 j3 ?_
      show WF _ E Po _ _ _ _ _ _ _
      rcases awtS_01 (c := (passS (h.1 1) 1).2) (x := g) N 0 with ew | ew
      · rw [if_pos ew] at hr
        rw [ew]
        have hr1 : r9.1 = nI k := by rw [← hr]
        refine r_if_ne (q := 41) (q2 := 39) dX9_hoursUntilBath_36 (by decide) rfl (fun h9 => absurd rfl h9) (fun _ => ?_)
        refine r_iload_n (q := 40) dX9_hoursUntilBath_39 rfl rfl rfl ?_
        refine r_iret dX9_hoursUntilBath_40 rfl (Nat.le_of_ble_eq_true rfl) (Nat.le_of_ble_eq_true rfl) ?_
        rw [← hr1]
        exact hp _ _ H2 hh2 f2
      · rw [if_neg (by rw [ew]; decide)] at hr
        rw [ew]
        refine r_if_ne (q := 41) (q2 := 39) dX9_hoursUntilBath_36 (by decide) rfl (fun _ => ?_) (fun h9 => absurd h9 (by decide))
        refine r_iinc (q := 44) dX9_hoursUntilBath_41 rfl (Nat.le_of_ble_eq_true rfl) (xone_of rfl) rfl ?_
        rw [show nI k + Int32.ofInt 1 = nI (k + 1) from nI_1 k]
        refine r_goto (q := 13) dX9_hoursUntilBath_44 (by decide) ?_
        exact ih z2 (k + 1) _ _ (by omega) H2 hh2 f2 i4 hr (by omega)
set_option maxRecDepth 100000 in
set_option maxHeartbeats 4000000 in
theorem ct_X9_hoursUntilBath {E : xE} {Po : xPo} {w : xW} {x : Nat} {h : xHi} {g : Int32} {N : Nat} (H : HI E w x h) (inv : xCo → Prop) (hi : ∀ c, inv c → inC c ∧ N ≤ 5 ∧ c.1 2 = nI N ∧ inv (passS c 1).2) (hv : inv (cpS (h.1 1) (h.1 0))) (hp : ∀ u h2, HI E u x h2 → (∃ c, h2 = upS h 1 c) → Fr w u x h → Po (.inl (some (.int (hbF g N 60 1 (cpS (h.1 1) (h.1 0))).1))) u) : Ct M_X9_hoursUntilBath E [.ref x, .int g] w Po := by
  refine Ct.of (ws2 := xAll) (L := [some (.ref x), some (.int g), none]) (by decide +kernel) rfl rfl (List.forall_mem_cons.mpr ⟨rfl, List.forall_mem_cons.mpr ⟨rfl, fun _ h => absurd h List.not_mem_nil⟩⟩) (Nat.le_of_ble_eq_true rfl) rfl ?_
  refine r_aload_n (q := 1) dX9_hoursUntilBath_0 rfl rfl rfl ?_
  refine r_getfield (q := 4) dX9_hoursUntilBath_1 f_X9_hoursUntilBath_16 H.1.1 rfl rfl ?_
  refine r_aload_n (q := 5) dX9_hoursUntilBath_4 rfl rfl rfl ?_
  refine r_getfield (q := 8) dX9_hoursUntilBath_5 f_X9_hoursUntilBath_10 H.1.1 rfl rfl ?_
  refine r_callV (q := 11) (ci := 7) (As := [_]) dX9_hoursUntilBath_8 s_X9_hoursUntilBath_315 (H.2.1.2.1 0 (by decide)) rfl rfl rfl (Nat.le_of_ble_eq_true rfl) rfl rfl rfl (Nat.le_of_ble_eq_true rfl) (Nat.le_of_ble_eq_true rfl) ⟨(Nat.le_of_ble_eq_true rfl), (Nat.le_of_ble_eq_true rfl)⟩ rfl ?_
  refine Ct.cw H.2.1.2.1.eq.symm (ct_X5_copyFrom H.2.1.1 (by omega) ?_)
  show WF _ E Po _ _ _ _ _ _ _
  have H1 := H.st1 (c := cpS (h.1 1) (h.1 0))
  refine r_iconst (q := 12) (v := 1) dX9_hoursUntilBath_11 rfl rfl ?_
  refine r_istore_n (q := 13) dX9_hoursUntilBath_12 rfl (Nat.le_of_ble_eq_true rfl) (xone_of rfl) rfl ?_
  exact lp_X9_hub inv hi hp 61 60 1 _ _ rfl H1 ⟨_, rfl⟩ (Fr.id.sto (by omega) (by omega)) hv rfl (by decide)
set_option maxRecDepth 100000 in
set_option maxHeartbeats 4000000 in
theorem ct_X9_bathesIn {E : xE} {Po : xPo} {w : xW} {x : Nat} {h : xHi} {g : Int32} {N : Nat} (H : HI E w x h) (inv : xCo → Prop) (hi : ∀ c, inv c → inC c ∧ N ≤ 5 ∧ c.1 2 = nI N ∧ inv (passS c 1).2) (hi0 : inC (h.1 0)) (hN : N ≤ 5) (eN : (h.1 0).1 2 = nI N) (hv : inv (cpS (h.1 1) (h.1 0))) (hp : ∀ u h2, HI E u x h2 → (∃ c, h2 = upS h 1 c) → Fr w u x h → (if awtS (h.1 0) g N 0 = 0 then Po (.inr "java/util/NoSuchElementException") u else if 0 ≤ (hbF g N 60 1 (cpS (h.1 1) (h.1 0))).1 then Po (.inl (some (.int (hbF g N 60 1 (cpS (h.1 1) (h.1 0))).1))) u else Po (.inr "java/util/NoSuchElementException") u)) : Ct M_X9_bathesIn E [.ref x, .int g] w Po := by
  refine Ct.of (ws2 := xAll) (L := [some (.ref x), some (.int g), none]) (by decide +kernel) rfl rfl (List.forall_mem_cons.mpr ⟨rfl, List.forall_mem_cons.mpr ⟨rfl, fun _ h => absurd h List.not_mem_nil⟩⟩) (Nat.le_of_ble_eq_true rfl) rfl ?_
  refine r_aload_n (q := 1) dX9_bathesIn_0 rfl rfl rfl ?_
  refine r_getfield (q := 4) dX9_bathesIn_1 f_X9_bathesIn_10 H.1.1 rfl rfl ?_
  refine r_iload_n (q := 5) dX9_bathesIn_4 rfl rfl rfl ?_
  refine r_callV (q := 8) (ci := 7) (As := [_]) dX9_bathesIn_5 s_X9_bathesIn_183 (H.2.1.1 0 (by decide)) rfl rfl rfl (Nat.le_of_ble_eq_true rfl) rfl rfl rfl (Nat.le_of_ble_eq_true rfl) (Nat.le_of_ble_eq_true rfl) ⟨(Nat.le_of_ble_eq_true rfl), (Nat.le_of_ble_eq_true rfl)⟩ rfl ?_
  refine Ct.cw H.2.1.1.eq.symm (ct_X5_awaits hN hi0 eN ?_)
  show WF _ E Po _ _ _ _ _ _ _
  refine WF.cw H.2.1.1.eq ?_
  rcases awtS_01 (c := h.1 0) (x := g) N 0 with ew | ew
  · rw [ew]
    have hq : ∀ u, HI E u x (upS h 1 (h.1 1)) → Fr w u x h → Po (.inr "java/util/NoSuchElementException") u := fun u H2 f2 => by
      have hq := hp u (upS h 1 (h.1 1)) H2 ⟨_, rfl⟩ f2
      rw [if_pos ew] at hq
      exact hq
    have hu1 : upS h 1 (h.1 1) = h := by
      unfold upS
      refine Prod.ext ?_ rfl
      funext j
      by_cases e : j = 1 <;> simp [e]
    rw [hu1] at hq
    refine r_if_eq (q := 19) (q2 := 11) dX9_bathesIn_8 (by decide) rfl (fun _ => ?_) (fun h9 => absurd rfl h9)
    refine r_iconst (q := 20) (v := (-1)) dX9_bathesIn_19 rfl rfl ?_
    refine r_istore_n (q := 21) dX9_bathesIn_20 rfl (Nat.le_of_ble_eq_true rfl) (xone_of rfl) rfl ?_
    refine r_iload_n (q := 22) dX9_bathesIn_21 rfl rfl rfl ?_
    refine r_if_ge (q := 35) (q2 := 25) dX9_bathesIn_22 (by decide) rfl (fun h9 => absurd h9 (by decide)) (fun _ => ?_)
    exact r_throwNS (i := 13) (by decide +kernel) (by decide +kernel) th_nm1 (by decide) (fun _ h => List.mem_cons_of_mem _ h) th_NS tk_NS ti_NS rfl dX9_bathesIn_25 dX9_bathesIn_28 dX9_bathesIn_29 dX9_bathesIn_31 dX9_bathesIn_34 rfl (Nat.le_of_ble_eq_true rfl) (Nat.le_of_ble_eq_true rfl) (Nat.le_of_ble_eq_true rfl) (Nat.le_of_ble_eq_true rfl) (Nat.le_of_ble_eq_true rfl) (Nat.le_of_ble_eq_true rfl) (fun z hz => hq _ (H.sz hz) (Fr.id.sz hz))
  · rw [ew]
    refine r_if_eq (q := 19) (q2 := 11) dX9_bathesIn_8 (by decide) rfl (fun h9 => absurd h9 (by decide)) (fun _ => ?_)
    refine r_aload_n (q := 12) dX9_bathesIn_11 rfl rfl rfl ?_
    refine r_iload_n (q := 13) dX9_bathesIn_12 rfl rfl rfl ?_
    refine r_callV (q := 16) (ci := 11) (As := [_]) dX9_bathesIn_13 s_X9_bathesIn_186 H.1.1 rfl rfl rfl (Nat.le_of_ble_eq_true rfl) rfl rfl rfl (Nat.le_of_ble_eq_true rfl) (Nat.le_of_ble_eq_true rfl) ⟨(Nat.le_of_ble_eq_true rfl), (Nat.le_of_ble_eq_true rfl)⟩ rfl ?_
    refine ct_X9_hoursUntilBath H inv hi hv ?_
    intro u h2 H2 hh f2
    show WF _ E Po _ _ _ _ _ _ _
    have hq := hp u h2 H2 hh f2
    rw [if_neg (by rw [ew]; decide)] at hq
    refine r_goto (q := 20) dX9_bathesIn_16 (by decide) ?_
    refine r_istore_n (q := 21) dX9_bathesIn_20 rfl (Nat.le_of_ble_eq_true rfl) (xone_of rfl) rfl ?_
    refine r_iload_n (q := 22) dX9_bathesIn_21 rfl rfl rfl ?_
    refine r_if_ge (q := 35) (q2 := 25) dX9_bathesIn_22 (by decide) rfl (fun h22 => ?_) (fun h22 => ?_)
    · rw [if_pos h22] at hq
      refine r_iload_n (q := 36) dX9_bathesIn_35 rfl rfl rfl ?_
      refine r_iret dX9_bathesIn_36 rfl (Nat.le_of_ble_eq_true rfl) (Nat.le_of_ble_eq_true rfl) ?_
      exact hq
    · have hq2 : ∀ u, HI E u x h2 → Fr w u x h → Po (.inr "java/util/NoSuchElementException") u := fun u H2 f2 => by
        have hq := hp u h2 H2 hh f2
        rw [if_neg (by rw [ew]; decide), if_neg h22] at hq
        exact hq
      exact r_throwNS (i := 13) (by decide +kernel) (by decide +kernel) th_nm1 (by decide) (fun _ h => List.mem_cons_of_mem _ h) th_NS tk_NS ti_NS rfl dX9_bathesIn_25 dX9_bathesIn_28 dX9_bathesIn_29 dX9_bathesIn_31 dX9_bathesIn_34 rfl (Nat.le_of_ble_eq_true rfl) (Nat.le_of_ble_eq_true rfl) (Nat.le_of_ble_eq_true rfl) (Nat.le_of_ble_eq_true rfl) (Nat.le_of_ble_eq_true rfl) (Nat.le_of_ble_eq_true rfl) (fun z hz => hq2 _ (H2.sz hz) (f2.sz hz))
