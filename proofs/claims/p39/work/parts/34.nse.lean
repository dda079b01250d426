/-! ===== 34.nse: a throw of java.util.NoSuchElementException, whose constructor links its super constructor at place 13 ===== -/
def nsB : ByteArray := ⟨#[0x2a, 0x2b, 0xb7, 0x00, 0x0d, 0xb1]⟩
theorem nsB_0 : decode nsB 0 = .ok (.aload_n 0, 1) := by decide +kernel
theorem nsB_1 : decode nsB 1 = .ok (.aload_n 1, 1) := by decide +kernel
theorem nsB_2 : decode nsB 2 = .ok (.invokespecial 13, 3) := by decide +kernel
theorem nsB_5 : decode nsB 5 = .ok (.return_, 1) := by decide +kernel
def nsEnd (own : String) (ic : Nat) (X : String) : List Cond :=
  [.methodLink own ic (Bundle.initS X), .instantiable X 6, .castable X X, .selects X Bundle.tFill0 Bundle.tFill0, .selects X Bundle.tFill Bundle.tFill,
   .lays X Bundle.tN "cause" "Ljava/lang/Throwable;", .lays X Bundle.tN "stackTrace" Bundle.steD, .lays X Bundle.tN "suppressedExceptions" Bundle.listD, .lays X Bundle.tN "detailMessage" "Ljava/lang/String;",
   .isRef (.static Bundle.tN "UNASSIGNED_STACK" Bundle.steD), .isRef (.static Bundle.tN "SUPPRESSED_SENTINEL" Bundle.listD),
   .fieldLink Bundle.tN 198 Bundle.tN "backtrace" "Ljava/lang/Object;", .lays Bundle.tN Bundle.tN "backtrace" "Ljava/lang/Object;", .lays X Bundle.tN "backtrace" "Ljava/lang/Object;"]
def nsAt (own : String) (ic : Nat) (X Y : String) (r : List String) : List Cond :=
  Bundle.throwableAtoms ++ Bundle.throwableSAtoms ++ (Bundle.passSAtoms X Y 13 nsB ++ Bundle.chainSAtoms Y r) ++ nsEnd own ic X
section NSE
variable {p : Program} {l : Launch} {e : Env} {R : Room} {s : State} {m₀ : MethodId} {args : Array Value} {below : List Frame} {meth : Method} {c : Code} {W0 : State} {locs : List Loc} {cells slots : Nat}
set_option maxHeartbeats 4000000 in
theorem nsCtor (X : Stand p l e R s m₀ args below meth c W0 locs cells slots) (hexec : p.tables.exec = Jvm.exec) (htr : e.platform.stackTraces = false) {own cls Y9 : String} {r9 : List String} {ic : Nat}
    (hown : s.vm.findClass own = some m₀.cls) (hcls : Bundle.fit cls = true) (hY9 : Bundle.fit Y9 = true) (hnames : ∀ n ∈ r9, Bundle.fit n = true)
    (h : ∀ a ∈ nsAt own ic cls Y9 r9, a.before args s = true)
    (hlocs : ∀ x ∈ locs, ∀ cell, s.heap[x.base]? = some cell → cell.vm.isStatics = false)
    {a : Addr} {cX : ClassId} {kX : Class} (hfoundX : s.vm.findClass cls = some cX) (hkX : s.vm.classes[cX]? = some kX) (hcell : W0.heap[a]? = some (freshCell cX kX)) (hnew : s.heap.size ≤ a)
    {msg : Value} (hmsg : msg.isRef = true)
    {g : JFrame} (hg : g.method = m₀) (hsize : g.locals.size = c.maxLocals) (hlocked : g.locked = none) (hentered : g.entered = []) {rest : List Value} (hstack : g.stack = msg :: .ref a :: .ref a :: rest)
    (hd6 : decode c.code g.pc = .ok (.invokespecial ic, 3)) (hd9 : decode c.code (g.pc + 3) = .ok (.athrow, 1)) (hout : ∀ x ∈ c.exceptionTable.toList, covers x (g.pc + 3) = false)
    (hRframes : r9.length + 4 < R.frames) (hRlocals : 2 * g.monitorRoom + ((Value.ref a :: rest).map fun v => v.category).sum + (13 * (r9.length + 2) + 42) ≤ R.locals) (hlocks : meth.locks = false) :
    ∃ U : State, Steps p.tables e below (W0.setTop g) U ∧ U.status = .running ∧ Ended U below (.threw a) ∧ s.WarmedH U.vm ∧ s.sameButNew ({ U with vm := s.vm } : State) locs cells slots ∧
      ∃ ce, U.heap[a]? = some ce ∧ ce.vm = .none ∧ s.vm.findClass cls = some ce.cls := by
  have howns : e.platform.frameOwnsMonitors = true := by rw [X.admits.platform]
  have hfin : e.platform.finalization = false := by rw [X.admits.platform]
  have hpl : e.platform.magicAccessors = ({} : Platform).magicAccessors := by rw [X.admits.platform]
  have h1 : ∀ x, x ∈ Bundle.throwableAtoms → x.before args s = true := fun x hx => h x (by unfold nsAt; simp [hx])
  have h2 : ∀ x, x ∈ Bundle.throwableSAtoms → x.before args s = true := fun x hx => h x (by unfold nsAt; simp [hx])
  have h3 : ∀ x, x ∈ Bundle.passSAtoms cls Y9 13 nsB → x.before args s = true := fun x hx => h x (by unfold nsAt; simp [hx])
  have h4 : ∀ x, x ∈ Bundle.chainSAtoms Y9 r9 → x.before args s = true := fun x hx => h x (by unfold nsAt; simp [hx])
  have h5 : ∀ x, x ∈ nsEnd own ic cls → x.before args s = true := fun x hx => h x (by unfold nsAt; simp [hx])
  have a' : ∀ x, x ∈ nsEnd own ic cls → x.holds args s none s [] = true := fun x hx => h5 x hx
  obtain ⟨T, Z0, L, -, Y⟩ := ThrowableC.of_atoms (args := args) howns hfin hpl h1
  obtain ⟨Z, M, LZ, LM, hnZ⟩ := Init0T.ofS_atoms (args := args) hpl L Y h2
  obtain ⟨P1, L1, hP1m, hs1⟩ := PassC.ofS_atoms (args := args) (s := s) hpl (X := cls) (Y := Y9) (Bundle.fit_spec hcls).1 (Bundle.fit_spec hY9).2 nsB_0 nsB_1 nsB_2 nsB_5 h3
  obtain ⟨P2, Ps0, hlen, L2, hL, hP2m, hlink1, hlink⟩ := Bundle.chainS (args := args) hpl hnZ r9 Y9 hY9 hnames h4
  have hsup : P1.sup = P2.m := Option.some.inj (hs1.symm.trans hP2m)
  have hfound : s.vm.findClass cls = some P1.m.cls := findClass_of_methodNamed hP1m
  cases Option.some.inj (hfoundX.symm.trans hfound)
  obtain ⟨c1, kX', hc1, hk, hord, -, -, hn6⟩ := Cond.instantiable_spec (a' (.instantiable cls 6) (by simp [nsEnd]))
  cases Option.some.inj (hc1.symm.trans hfound)
  cases Option.some.inj (hkX.symm.trans hk)
  have hsel0 : selectMethod e.platform s.vm P1.m.cls T.fill0 = .method T.fill0 := by
    obtain ⟨c2, r2, m2, q1, q2, q3, q4, -⟩ := Cond.selects_spec (a' (.selects cls Bundle.tFill0 Bundle.tFill0) (by simp [nsEnd]))
    cases Option.some.inj (q1.symm.trans hfound)
    cases Option.some.inj (q2.symm.trans (State.methodFound?_of_named Y.fill0 (by decide)))
    cases Option.some.inj (q3.symm.trans Y.fill0)
    rw [Launch.admits_selectMethod X.admits]; exact q4
  have hselF : selectMethod e.platform s.vm P1.m.cls T.fill = .method T.fill := by
    obtain ⟨c2, r2, m2, q1, q2, q3, q4, -⟩ := Cond.selects_spec (a' (.selects cls Bundle.tFill Bundle.tFill) (by simp [nsEnd]))
    cases Option.some.inj (q1.symm.trans hfound)
    cases Option.some.inj (q2.symm.trans (State.methodFound?_of_named Y.fill (by decide)))
    cases Option.some.inj (q3.symm.trans Y.fill)
    rw [Launch.admits_selectMethod X.admits]; exact q4
  obtain ⟨cellS0, hcS0, hiss⟩ := Y.statics
  obtain ⟨u0, hu0⟩ := Cond.staticRefV Y.unassigned L.unassignedStatic L.statics hcS0 hiss (a' (.isRef (.static Bundle.tN "UNASSIGNED_STACK" Bundle.steD)) (by simp [nsEnd]))
  obtain ⟨sen, hsen⟩ := Cond.staticRefV Y.sentinel L.sentinelStatic L.statics hcS0 hiss (a' (.isRef (.static Bundle.tN "SUPPRESSED_SENTINEL" Bundle.listD)) (by simp [nsEnd]))
  obtain ⟨ci198, i198, fB, hk198, hg198, ha198, hsB, -, hnB, htB, hffB⟩ := Cond.ownField (t := .object "java/lang/Object") Y.found L.cls (by decide +kernel) (a' (.fieldLink Bundle.tN 198 Bundle.tN "backtrace" "Ljava/lang/Object;") (by simp [nsEnd])) (a' (.lays Bundle.tN Bundle.tN "backtrace" "Ljava/lang/Object;") (by simp [nsEnd])) e.platform hpl
  obtain ⟨cellS, hcS', heS, -, hkeep⟩ := X.same.2.2.2.2.2 T.aS cellS0 hcS0
  have hcellS : W0.heap[T.aS]? = some cellS := hcS'
  have hout' : ∀ i, (⟨T.aS, i⟩ : Loc) ∉ locs := fun i hmem => by
    have := hlocs _ hmem cellS0 hcS0
    rw [hiss] at this; cases this
  have hknownS : cellS.vm ≠ .unknown := by
    rw [heS]; intro hu
    rw [show cellS0.vm = .unknown from hu] at hiss
    cases hiss
  have hneS : T.aS ≠ a := Nat.ne_of_lt (Nat.lt_of_lt_of_le (Array.getElem?_eq_some_iff.mp hcS0).1 hnew)
  obtain ⟨iM, hffM⟩ := Y.msg
  obtain ⟨tyC, dC, hdC, hdnC⟩ := Cond.laysAt hfound hk Y.cause (a' (.lays cls Bundle.tN "cause" "Ljava/lang/Throwable;") (by simp [nsEnd]))
  obtain ⟨tyS, dS, hdS, hdnS⟩ := Cond.laysAt hfound hk Y.stack (a' (.lays cls Bundle.tN "stackTrace" Bundle.steD) (by simp [nsEnd]))
  obtain ⟨tyP, dP, hdP, hdnP⟩ := Cond.laysAt hfound hk Y.supp (a' (.lays cls Bundle.tN "suppressedExceptions" Bundle.listD) (by simp [nsEnd]))
  obtain ⟨tyM, dM, hdM, hdnM⟩ := Cond.laysAt hfound hk hffM (a' (.lays cls Bundle.tN "detailMessage" "Ljava/lang/String;") (by simp [nsEnd]))
  obtain ⟨tyB, dB, hdB, hdnB⟩ := Cond.laysAt hfound hk hffB (a' (.lays cls Bundle.tN "backtrace" "Ljava/lang/Object;") (by simp [nsEnd]))
  have bC := Cond.laysApart hdB hdC hdnB hdnC (by rw [hnB, Y.causeName]; decide)
  have bS := Cond.laysApart hdB hdS hdnB hdnS (by rw [hnB, Y.stackName]; decide)
  have bP := Cond.laysApart hdB hdP hdnB hdnP (by rw [hnB, Y.suppName]; decide)
  have hskip : SkipFacts T e.platform s (fun u => u) u0 ((preparedCellV T.toThrowableT (freshCell P1.m.cls kX) a u0 sen).withEntry W0.cur) :=
    ⟨{ ci198 := ci198, i198 := i198, fBack := fB }, ⟨hk198, hg198, ha198, hsB⟩, by
      have := fresh_default (c := P1.m.cls) tyB
      rw [htB] at this
      simpa [preparedCellV, Cell.setSlot, Cell.withEntry, Array.getElem?_setIfInBounds, bC, bS, bP, bC.symm, bS.symm, bP.symm, defaultValue] using this, fun _ _ => rfl⟩
  obtain ⟨tm, methC, cdC, kC, vm₁, hnC, -, -, -, -, -, -, -, hW₁, st1⟩ := Steps.initColdS (tb := p.tables) (e := e) (below := below) (s := s) (U := W0) X.here hexec X.warmed hpl hown (t := Bundle.initS cls) rfl rfl (Bundle.fit_spec hcls).2
    (a' (.methodLink own ic (Bundle.initS cls)) (by simp [nsEnd])) (h3 (.instanceMethod (Bundle.initS cls)) (by simp [Bundle.passSAtoms])) (bytes := nsB) (maxL := 2) (h3 (.code (Bundle.initS cls) nsB 2 none) (by simp [Bundle.passSAtoms]))
    (f := g) hg (a := a) (msg := msg) (rest := .ref a :: rest) hstack hd6
  cases Option.some.inj (hnC.symm.trans hP1m)
  have X₁ := X.noted hW₁
  obtain ⟨vm₂, X₂, st2⟩ := X₁.ctorMessageOffV hexec (g := { g with stack := .ref a :: rest }) hg hsize T L Z LZ M LM (P1 :: P2 :: Ps0)
    (fun P hP => by
      rcases List.mem_cons.mp hP with rfl | hP
      · exact L1
      · rcases List.mem_cons.mp hP with rfl | hP
        · exact L2
        · exact hL P hP) ⟨hsup, hlink1, hlink⟩ (u0 := u0) (sen := sen) (self := a) hmsg (cell := freshCell P1.m.cls kX) (cellS := cellS)
    hcell (fun _ => by simp) (by simp) rfl rfl hsel0 hselF hcellS hneS hknownS (by rw [hkeep _ (hout' _)]; exact hu0) (by rw [hkeep _ (hout' _)]; exact hsen)
    (Takes.of_laid hk hord tyC (by rw [Y.causeType]; rfl)) (Takes.of_laid hk hord tyS (by rw [Y.stackType]; exact fits_refV_array _ u0)) (Takes.of_laid hk hord tyP (by rw [Y.suppType]; exact fits_refV_object _ sen))
    (Takes.of_laid hk hord tyM (by rw [Y.msgType]; exact fits_refV_object _ ⟨msg, hmsg⟩)) Y.objLocals hskip htr [] hd6
    (by simp only [List.length_cons, hlen]; omega) (by simp only [List.length_cons, hlen]; exact hRlocals)
  obtain ⟨hwalk, hrun, hended, hWU, hsame⟩ := X₂.athrowLeaves hexec (g := { g with stack := .ref a :: rest, pc := g.pc + 3 }) hg hlocked hentered hout (a := a) (rest := rest) rfl hd9
  have hlt : a < ((W0.setVm vm₁).setVm vm₂).heap.size := (Array.getElem?_eq_some_iff.mp hcell).1
  have hU := heapAt_setCell_self (s := (W0.setVm vm₁).setVm vm₂) (plainBareV T.toThrowableT (freshCell P1.m.cls kX) a u0 sen msg) hlt
  refine ⟨_, st1 _ (fun acts => ?_), hrun, hended, hWU, hsame.weaken (fun y hy hlt' => ?_) (Nat.le_refl _) (Nat.le_refl _), _, hU, rfl, hfound⟩
  · rw [doInvoke_state]
    exact st2 _ hwalk
  · rcases List.mem_append.mp hy with h1 | h1
    · exact h1
    · exfalso
      have hb : y.base = a := by
        simp only [List.mem_cons, List.not_mem_nil, or_false] at h1
        rcases h1 with rfl | rfl | rfl | rfl | rfl <;> rfl
      rw [hb] at hlt'
      exact Nat.not_lt.mpr hnew hlt'
end NSE
section NST
variable {p : Program} {l : Launch} {e : Env} {R : Room} {s : State} {m : MethodId} {args : Array Value} {below : List Frame} {meth : Method} {c : Code} {H : Heap} {locs : List Loc} {cells slots : Nat}
variable {mc ms : Nat} {free : Addr → Prop} {A0 A1 : Nat → Prop} {H0 : Heap} {a : Array Value} {ls : Array Slot} {st0 rest : List Value}
variable {Qc : Array Value → State → Outcome → State → Prop} {XC : String → State → State → Prop}
def nsAtS (own : String) (ic : Nat) (X Y : String) (r : List String) : List Cond := (nsAt own ic X Y r).filter vx_no
set_option maxHeartbeats 4000000 in
theorem nsThrow {cc : ByteArray} {pc : Nat} (hexec : p.tables.exec = Jvm.exec) (hb : c.code = cc) (hl : l.stackTraces = false) {own cls text Y9 : String} {r9 : List String} {ik is ic mc ms sa : Nat} {A : Nat → Prop}
    (hown : s.vm.findClass own = some m.cls) (hcls : Bundle.fit cls = true) (hY9 : Bundle.fit Y9 = true) (hnames : ∀ n ∈ r9, Bundle.fit n = true)
    (hk : (Cond.classLink own ik cls).before args s = true) (hini : (Cond.initialized cls).before args s = true) (hstr : vk_R own is text sa s) (hat : ∀ w ∈ nsAtS own ic cls Y9 r9, w.before args s = true)
    (hgood : ∀ w ∈ Cond.classLink own ik cls :: Cond.initialized cls :: nsAtS own ic cls Y9 r9, vx_ot w = true)
    (hU : vx_Zq Bundle.tN "UNASSIGNED_STACK" Bundle.steD A s s.heap) (hN : vx_Zq Bundle.tN "SUPPRESSED_SENTINEL" Bundle.listD A s s.heap) (hS : va_S A s.heap H locs) (hsize : ls.size = c.maxLocals)
    (d0 : decode cc pc = .ok (.new ik, 3)) (d3 : decode cc (pc + 3) = .ok (.dup, 1)) (d4 : decode cc (pc + 4) = .ok (.ldc is, 2)) (d6 : decode cc (pc + 6) = .ok (.invokespecial ic, 3)) (d9 : decode cc (pc + 9) = .ok (.athrow, 1))
    (hout : ∀ x ∈ c.exceptionTable.toList, covers x (pc + 9) = false)
    (hRframes : r9.length + 4 < R.frames) (hRlocals : (rest.map fun v => v.category).sum + (13 * (r9.length + 2) + 43) ≤ R.locals) (hRcells : cells + 1 ≤ R.cells) (hRslots : slots + 6 ≤ R.slots) (hlocks : meth.locks = false)
    (hx : ∀ t : State, s.vm.Alike t.vm → H.size ≤ t.heap.size → (∀ q : Nat, q < H.size → t.heap[q]? = H[q]?) → XC cls s t)
    (hf : ∀ z ∈ locs, free z.base) (hc : cells + 1 ≤ mc) (hs : slots + 6 ≤ ms) :
    W p l e R s m args below meth c H locs cells slots (vx_MQ below Qc XC args s mc ms free) (F0 m pc ls rest) := by
  intro T hT X
  have htr : e.platform.stackTraces = false := (show e.platform.stackTraces = l.stackTraces by rw [X.admits.platform]).trans hl
  have Y := vx_rebase X (R' := { frames := R.frames, locals := R.locals, cells := 1, slots := 6 }) (Nat.le_refl _) (Nat.le_refl _) hRcells hRslots
  obtain ⟨s', hA⟩ : ∃ z, z = (T.setVm s.vm).setFrames (.invoking m args :: below) := ⟨_, rfl⟩
  rw [← hA] at Y
  have hvm : s'.vm = s.vm := by rw [hA]; rfl
  have hhp : s'.heap = H := by rw [hA]; exact hT
  have hW0 : s.WarmedH s'.vm := by rw [hvm]; exact State.WarmedH.refl s
  have hat' : ∀ w ∈ nsAtS own ic cls Y9 r9, w.before args s' = true := fun w hw => vx_ot_at hW0 hvm.symm (hgood w (List.mem_cons_of_mem _ (List.mem_cons_of_mem _ hw))) (hat w hw)
  have hk' : (Cond.classLink own ik cls).before args s' = true := vx_ot_at hW0 hvm.symm (hgood _ List.mem_cons_self) hk
  have hini' : (Cond.initialized cls).before args s' = true := vx_ot_at hW0 hvm.symm (hgood _ (List.mem_cons_of_mem _ List.mem_cons_self)) hini
  have hU' : vx_Zq Bundle.tN "UNASSIGNED_STACK" Bundle.steD A s' s'.heap := by rw [hhp]; exact vx_Zq.moved hW0.alike (hU.kept hS.2.1)
  have hN' : vx_Zq Bundle.tN "SUPPRESSED_SENTINEL" Bundle.listD A s' s'.heap := by rw [hhp]; exact vx_Zq.moved hW0.alike (hN.kept hS.2.1)
  have h : ∀ w ∈ nsAt own ic cls Y9 r9, w.before args s' = true := vx_own hat' (vx_isRefq hU'.1) (vx_isRefq hN'.1) hU'.2.word hN'.2.word
  have hown' : s'.vm.findClass own = some m.cls := by rw [hvm]; exact hown
  have hins : (Cond.instantiable cls 6).before args s' = true := h _ (by simp [nsAt, nsEnd])
  obtain ⟨vm₁, cX, kX, hfX, hkX, -, -, X₁, st1⟩ := Y.newCold hexec (own := own) (C := cls) (index := ik) (n := 6) hown' hk' hins hini'
    (g := F0 m pc ls rest) rfl (by rw [hb]; exact d0) (Nat.le_refl _) (Nat.le_refl _)
  generalize hT1 : (T.setVm vm₁).pushCell { cls := cX, slots := kX.instanceTypes.map defaultValue, vm := .none } = T1 at X₁ st1
  have hcat : (Value.ref T.heap.size).category = 1 := rfl
  have hcellA : T1.heap[T.heap.size]? = some (freshCell cX kX) := by rw [← hT1]; exact State.heap_pushCell_size _ _
  have d3' : decode c.code (pc + 3) = .ok (.dup, 1) := by rw [hb]; exact d3
  have d4' : decode c.code (pc + 4) = .ok (.ldc is, 2) := by rw [hb]; exact d4
  have hstr' : vk_R own is text sa s' := vk_R.warm hW0 hstr
  obtain ⟨U, hsteps, hrun, hend, hW, hsame, ce, hce, hO1, hO2⟩ := nsCtor X₁ hexec htr (own := own) (cls := cls) (Y9 := Y9) (r9 := r9) (ic := ic) hown' hcls hY9 hnames h (fun x hx => nomatch hx) hfX hkX hcellA (by rw [hhp, hT]; exact Nat.le_refl _) (msg := .ref sa) rfl
    (g := { method := m, pc := pc + 6, locals := ls, stack := .ref sa :: .ref T.heap.size :: .ref T.heap.size :: rest, locked := none }) rfl hsize rfl rfl (rest := rest) rfl
    (by rw [hb]; exact d6) (by rw [hb]; exact d9) hout hRframes (by simp only [List.map_cons, List.sum_cons, hcat]; omega) hlocks
  obtain ⟨f1, f2⟩ := vx_frame hsame
  rw [hhp] at f1 f2
  have hWs : s.WarmedH U.vm := State.WarmedH.trans hW0 hW
  have hcl : s.vm.findClass cls = some ce.cls := by
    rw [hvm] at hO2
    exact hO2
  have hall : s.sameButNew ({ U with vm := s.vm } : State) locs mc ms := by
    subst hA
    obtain ⟨e1, e2⟩ := hsame
    rw [State.setFrames_setFrames] at e1
    have h2 : (T.setVm s.vm).sameButNew ({ U with vm := s.vm } : State) [] (0 + 1) (0 + 6) := ⟨e1, e2⟩
    have h3 := X.same.trans h2
    rw [List.append_nil] at h3
    exact h3.mono hc hs
  refine ⟨U, ?_, .threw T.heap.size, hrun, hend, Or.inr ⟨T.heap.size, rfl, cls, ce, locs, hx U hWs.alike f1 (fun q hq => f2 q hq (fun z hz => nomatch hz)), hce, hO1, hcl, hWs, hall, hf⟩⟩
  refine st1 _ ?_
  show Steps p.tables e below (T1.setTop { method := m, pc := pc + 3, locals := ls, stack := .ref T.heap.size :: rest, locked := none }) _
  jvm_step X₁.here [X₁.here.top, hexec, d3', Value.category]
  exact X₁.ldcString hexec (own := own) (text := text) (index := is) (a := sa) hown' hstr'.1 hstr'.2
    (g := { method := m, pc := pc + 4, locals := ls, stack := .ref T.heap.size :: .ref T.heap.size :: rest, locked := none }) rfl d4' _ hsteps
end NST
section XTHROWN
variable {M : xM} {E : xE} {Po : xPo} {w0 w : xW} {pc : Nat} {L : List (Option Value)} {st : List Value} {k n : Nat}
def nsThr (own : String) (ic : Nat) (X Y : String) (r : List String) : Prop := ∀ w ∈ nsAt own ic X Y r, vx_no w = true → (w ∈ xAll ∨ w = .castable X X ∨ ∃ q ∈ xDe, w = .declares (Bundle.initS q))
theorem nsThr.all {own X Y : String} {ic : Nat} {r : List String} (h : nsThr own ic X Y r) : ∀ w ∈ nsAtS own ic X Y r, w ∈ xAll ∨ w = .castable X X ∨ ∃ q ∈ xDe, w = .declares (Bundle.initS q) := fun w hw => h w (List.mem_filter.mp hw).1 (List.mem_filter.mp hw).2
theorem nsThr.good {own X Y : String} {ic ik : Nat} {r : List String} (h : nsThr own ic X Y r) (h1 : Cond.classLink own ik X ∈ xAll) (h2 : Cond.initialized X ∈ xAll) : ∀ w ∈ Cond.classLink own ik X :: Cond.initialized X :: nsAtS own ic X Y r, vx_ot w = true := by
  have g : ∀ w ∈ xAll, vx_ot w = true := fun w hw => by
    have h9 := (List.mem_filter.mp hw).2
    unfold vx_ot
    rw [h9, Bool.or_true]
  refine List.forall_mem_cons.mpr ⟨g _ h1, List.forall_mem_cons.mpr ⟨g _ h2, fun w hw => ?_⟩⟩
  rcases h.all w hw with h | h | ⟨q, hq, h⟩
  · exact g _ h
  · subst h; rfl
  · subst h; rfl
theorem nsThr.hat {own X Y : String} {ic : Nat} {r : List String} (h : nsThr own ic X Y r) (hX : X ∈ xCa) {args : Array Value} {s : State} (hx : ∀ w ∈ xAll, w.before args s = true) (hu : xU s) : ∀ w ∈ nsAtS own ic X Y r, w.before args s = true := by
  intro w hw
  rcases h.all w hw with h | h | ⟨q, hq, h⟩
  · exact hx w h
  · subst h; exact va_tabs rfl rfl (hu.2.2.2.1 X hX)
  · subst h; exact va_tabs rfl rfl (hu.2.2.2.2.2 q hq)
theorem r_throwNS {ik is ic i : Nat} {X Y tx : String} {r : List String} (hX : Bundle.fit X = true) (hY : Bundle.fit Y = true) (hnm : ∀ n ∈ r, Bundle.fit n = true) (hc : X ∈ xCa) (hM : ∀ w ∈ xAll, w ∈ mW M) (ht : nsThr (mY M).cls ic X Y r) (hk : Cond.classLink (mY M).cls ik X ∈ xAll) (hini : Cond.initialized X ∈ xAll) (hi : xStr[i]? = some ((mY M).cls, is, tx))
    (d0 : decode (mC M) pc = .ok (.new ik, 3)) (d3 : decode (mC M) (pc + 3) = .ok (.dup, 1)) (d4 : decode (mC M) (pc + 4) = .ok (.ldc is, 2)) (d6 : decode (mC M) (pc + 6) = .ok (.invokespecial ic, 3)) (d9 : decode (mC M) (pc + 9) = .ok (.athrow, 1)) (hH : mH M = [])
    (r1 : r.length + 4 < (mR M).frames) (r2 : (st.map fun v => v.category).sum + (13 * (r.length + 2) + 43) ≤ (mR M).locals) (r3 : k + 1 ≤ (mR M).cells) (r4 : n + 6 ≤ (mR M).slots) (r5 : k + 1 ≤ mK M) (r6 : n + 6 ≤ mN M) (hpo : ∀ z, w.2 ≤ z → Po (.inr X) (w.1, z)) : WF M E Po w0 pc L st w k n := by
  intro p l e s m args below meth c H locs ls C hP hs hS hl
  obtain ⟨c1, c2, c3, c4, c5, c6, c7, c8, c9, c10, c11, c12⟩ := id C
  exact nsThrow c1 c2 c8 c6 hX hY hnm (c5 _ (hM _ hk)) (c5 _ (hM _ hini)) (c11.2.2.1 i _ hi) (ht.hat hc (fun w hw => c5 w (hM w hw)) c11.2.2.2.2.2.2.2.2.1) (ht.good hk hini) c11.2.1.1 c11.2.1.2 hS (hl.1.trans c4.symm) d0 d3 d4 d6 d9 (fun x hx => by rw [c9, hH] at hx; exact absurd hx List.not_mem_nil) r1 r2 r3 r4 c7 (xThr.out hP hs hS hpo) hS.2.2 r5 r6
end XTHROWN
theorem v154 : (Jvm.Cond.lays "java/util/NoSuchElementException" "java/lang/Throwable" "backtrace" "Ljava/lang/Object;") ∈ xAll := xin4 (List.mem_of_getElem? (i := 33) (by decide +kernel)) (by decide +kernel)
theorem v155 : (Jvm.Cond.lays "java/util/NoSuchElementException" "java/lang/Throwable" "detailMessage" "Ljava/lang/String;") ∈ xAll := xin4 (List.mem_of_getElem? (i := 32) (by decide +kernel)) (by decide +kernel)
theorem v156 : (Jvm.Cond.lays "java/util/NoSuchElementException" "java/lang/Throwable" "suppressedExceptions" "Ljava/util/List;") ∈ xAll := xin4 (List.mem_of_getElem? (i := 31) (by decide +kernel)) (by decide +kernel)
theorem v157 : (Jvm.Cond.lays "java/util/NoSuchElementException" "java/lang/Throwable" "stackTrace" "[Ljava/lang/StackTraceElement;") ∈ xAll := xin4 (List.mem_of_getElem? (i := 30) (by decide +kernel)) (by decide +kernel)
theorem v158 : (Jvm.Cond.lays "java/util/NoSuchElementException" "java/lang/Throwable" "cause" "Ljava/lang/Throwable;") ∈ xAll := xin4 (List.mem_of_getElem? (i := 29) (by decide +kernel)) (by decide +kernel)
theorem v159 : (Jvm.Cond.selects "java/util/NoSuchElementException" ({ cls := "java/lang/Throwable", name := "fillInStackTrace", desc := "()Ljava/lang/Throwable;" } : Jvm.MethodName) ({ cls := "java/lang/Throwable", name := "fillInStackTrace", desc := "()Ljava/lang/Throwable;" } : Jvm.MethodName)) ∈ xAll := xin2 (List.mem_of_getElem? (i := 169) (by decide +kernel)) (by decide +kernel)
theorem v160 : (Jvm.Cond.selects "java/util/NoSuchElementException" ({ cls := "java/lang/Throwable", name := "fillInStackTrace", desc := "(I)Ljava/lang/Throwable;" } : Jvm.MethodName) ({ cls := "java/lang/Throwable", name := "fillInStackTrace", desc := "(I)Ljava/lang/Throwable;" } : Jvm.MethodName)) ∈ xAll := xin4 (List.mem_of_getElem? (i := 28) (by decide +kernel)) (by decide +kernel)
theorem v161 : (Jvm.Cond.instantiable "java/util/NoSuchElementException" (6 : Nat)) ∈ xAll := xin4 (List.mem_of_getElem? (i := 26) (by decide +kernel)) (by decide +kernel)
theorem v162 : (Jvm.Cond.methodLink "TubHire" (96 : Nat) ({ cls := "java/util/NoSuchElementException", name := "<init>", desc := "(Ljava/lang/String;)V" } : Jvm.MethodName)) ∈ xAll := xin4 (List.mem_of_getElem? (i := 35) (by decide +kernel)) (by decide +kernel)
theorem v163 : (Jvm.Cond.methodLink "java/util/NoSuchElementException" (13 : Nat) ({ cls := "java/lang/RuntimeException", name := "<init>", desc := "(Ljava/lang/String;)V" } : Jvm.MethodName)) ∈ xAll := xin4 (List.mem_of_getElem? (i := 38) (by decide +kernel)) (by decide +kernel)
theorem v164 : (Jvm.Cond.code ({ cls := "java/util/NoSuchElementException", name := "<init>", desc := "(Ljava/lang/String;)V" } : Jvm.MethodName) prog_41_method_4_code (2 : Nat) (Option.none : Option Jvm.ClassFile.FieldType)) ∈ xAll := xin4 (List.mem_of_getElem? (i := 37) (by decide +kernel)) (by decide +kernel)
theorem v165 : (Jvm.Cond.instanceMethod ({ cls := "java/util/NoSuchElementException", name := "<init>", desc := "(Ljava/lang/String;)V" } : Jvm.MethodName)) ∈ xAll := xin4 (List.mem_of_getElem? (i := 36) (by decide +kernel)) (by decide +kernel)
theorem v166 : (Jvm.Cond.classLink "TubHire" (92 : Nat) "java/util/NoSuchElementException") ∈ xAll := xin4 (List.mem_of_getElem? (i := 25) (by decide +kernel)) (by decide +kernel)
theorem v167 : (Jvm.Cond.initialized "java/util/NoSuchElementException") ∈ xAll := xin1 (List.mem_of_getElem? (i := 25) (by decide +kernel)) (by decide +kernel)
set_option maxRecDepth 100000 in
theorem th_NS : nsThr "TubHire" 96 "java/util/NoSuchElementException" "java/lang/RuntimeException" ["java/lang/Exception"] := List.forall_mem_cons.mpr ⟨fun _ => Or.inl v95, List.forall_mem_cons.mpr ⟨fun _ => Or.inl v94, List.forall_mem_cons.mpr ⟨fun _ => Or.inl v93, List.forall_mem_cons.mpr ⟨fun _ => Or.inl v92, List.forall_mem_cons.mpr ⟨fun _ => Or.inl v91, List.forall_mem_cons.mpr ⟨fun _ => Or.inl v90, List.forall_mem_cons.mpr ⟨fun _ => Or.inl v89, List.forall_mem_cons.mpr ⟨fun _ => Or.inl v88, List.forall_mem_cons.mpr ⟨fun _ => Or.inl v0, List.forall_mem_cons.mpr ⟨fun _ => Or.inl v1, List.forall_mem_cons.mpr ⟨fun _ => Or.inl v87, List.forall_mem_cons.mpr ⟨fun _ => Or.inl v86, List.forall_mem_cons.mpr ⟨fun _ => Or.inl v85, List.forall_mem_cons.mpr ⟨fun _ => Or.inl v84, List.forall_mem_cons.mpr ⟨fun _ => Or.inl v83, List.forall_mem_cons.mpr ⟨fun _ => Or.inl v82, List.forall_mem_cons.mpr ⟨fun _ => Or.inl v81, List.forall_mem_cons.mpr ⟨fun _ => Or.inl v80, List.forall_mem_cons.mpr ⟨fun _ => Or.inl v79, List.forall_mem_cons.mpr ⟨fun _ => Or.inl v78, List.forall_mem_cons.mpr ⟨fun h => absurd h (by decide +kernel), List.forall_mem_cons.mpr ⟨fun _ => Or.inl v77, List.forall_mem_cons.mpr ⟨fun h => absurd h (by decide +kernel), List.forall_mem_cons.mpr ⟨fun _ => Or.inl v74, List.forall_mem_cons.mpr ⟨fun _ => Or.inl v64, List.forall_mem_cons.mpr ⟨fun _ => Or.inl v76, List.forall_mem_cons.mpr ⟨fun _ => Or.inl v75, List.forall_mem_cons.mpr ⟨fun _ => Or.inl v74, List.forall_mem_cons.mpr ⟨fun _ => Or.inl v165, List.forall_mem_cons.mpr ⟨fun _ => Or.inl v164, List.forall_mem_cons.mpr ⟨fun _ => Or.inl v163, List.forall_mem_cons.mpr ⟨fun _ => Or.inl v70, List.forall_mem_cons.mpr ⟨fun _ => Or.inr (Or.inr ⟨_, (by decide), rfl⟩), List.forall_mem_cons.mpr ⟨fun _ => Or.inl v70, List.forall_mem_cons.mpr ⟨fun _ => Or.inl v69, List.forall_mem_cons.mpr ⟨fun _ => Or.inl v68, List.forall_mem_cons.mpr ⟨fun _ => Or.inl v67, List.forall_mem_cons.mpr ⟨fun _ => Or.inr (Or.inr ⟨_, (by decide), rfl⟩), List.forall_mem_cons.mpr ⟨fun _ => Or.inl v67, List.forall_mem_cons.mpr ⟨fun _ => Or.inl v66, List.forall_mem_cons.mpr ⟨fun _ => Or.inl v65, List.forall_mem_cons.mpr ⟨fun _ => Or.inl v64, List.forall_mem_cons.mpr ⟨fun _ => Or.inr (Or.inr ⟨_, (by decide), rfl⟩), List.forall_mem_cons.mpr ⟨fun _ => Or.inl v162, List.forall_mem_cons.mpr ⟨fun _ => Or.inl v161, List.forall_mem_cons.mpr ⟨fun _ => Or.inr (Or.inl rfl), List.forall_mem_cons.mpr ⟨fun _ => Or.inl v160, List.forall_mem_cons.mpr ⟨fun _ => Or.inl v159, List.forall_mem_cons.mpr ⟨fun _ => Or.inl v158, List.forall_mem_cons.mpr ⟨fun _ => Or.inl v157, List.forall_mem_cons.mpr ⟨fun _ => Or.inl v156, List.forall_mem_cons.mpr ⟨fun _ => Or.inl v155, List.forall_mem_cons.mpr ⟨fun h => absurd h (by decide +kernel), List.forall_mem_cons.mpr ⟨fun h => absurd h (by decide +kernel), List.forall_mem_cons.mpr ⟨fun _ => Or.inl v55, List.forall_mem_cons.mpr ⟨fun _ => Or.inl v54, List.forall_mem_cons.mpr ⟨fun _ => Or.inl v154, fun _ h => absurd h List.not_mem_nil⟩⟩⟩⟩⟩⟩⟩⟩⟩⟩⟩⟩⟩⟩⟩⟩⟩⟩⟩⟩⟩⟩⟩⟩⟩⟩⟩⟩⟩⟩⟩⟩⟩⟩⟩⟩⟩⟩⟩⟩⟩⟩⟩⟩⟩⟩⟩⟩⟩⟩⟩⟩⟩⟩⟩⟩⟩
theorem tk_NS : Cond.classLink "TubHire" 92 "java/util/NoSuchElementException" ∈ xAll := v166
theorem ti_NS : Cond.initialized "java/util/NoSuchElementException" ∈ xAll := v167
theorem th_nm1 : ∀ n ∈ ["java/lang/Exception"], Bundle.fit n = true := by decide +kernel
