/-! ===== 47.rules2: more rules: calls on a builder, bytes ===== -/
/-- the words of the builder's private methods: they ride with the methods that call them -/
def xPv : List Cond := [.privateMethod ⟨"java/lang/AbstractStringBuilder", "ensureCapacityInternal", "(I)V"⟩, .privateMethod ⟨"java/lang/AbstractStringBuilder", "newCapacity", "(I)I"⟩, .privateMethod ⟨"java/lang/AbstractStringBuilder", "putStringAt", "(ILjava/lang/String;)V"⟩, .privateMethod ⟨"java/lang/AbstractStringBuilder", "inflateIfNeededFor", "(Ljava/lang/String;)V"⟩]
theorem xmn_of_vm {U V : State} (h : U.vm = V.vm) (y : MethodName) : U.methodNamed? y = V.methodNamed? y := by simp only [State.methodNamed?, h]
theorem xPv_one {a a' : Array Value} {s U : State} (hW : s.WarmedH U.vm) (y : MethodName) (h : (Cond.privateMethod y).before a s = true) : (Cond.privateMethod y).before a' U = true := by
  have hal := hW.alike
  have e1 : U.methodNamed? y = s.methodNamed? y := (xmn_of_vm (V := s.setVm U.vm) rfl y).trans (State.methodNamed?_setVm hal y)
  have e2 : U.vm.method? = s.vm.method? := funext hal.method?
  simp only [Cond.before, Cond.holds, Cond.value] at h ⊢
  rw [e1, e2]; exact h
theorem xPv_warm {a a' : Array Value} {s U : State} (hW : s.WarmedH U.vm) {w : Cond} (hw : w ∈ xPv) (h : w.before a s = true) : w.before a' U = true := by
  simp only [xPv, List.mem_cons, List.not_mem_nil, or_false] at hw
  rcases hw with rfl | rfl | rfl | rfl <;> exact xPv_one hW _ h
theorem mP {c w : Cond} (h : w ∈ xAll) : w ∈ c :: (xPv ++ xAll) := List.mem_cons_of_mem _ (List.mem_append_right _ h)
theorem htsP {c : Cond} {s : State} {args : Array Value} (h : ∀ w ∈ c :: (xPv ++ xAll), w.before args s = true) : ∀ w ∈ c :: xAll, w.before args s = true := fun w hw => h w ((List.mem_cons.mp hw).elim (fun e => by rw [e]; exact List.mem_cons_self) mP)
theorem htsQ {c : Cond} {s : State} {args : Array Value} (h : ∀ w ∈ c :: (xPv ++ xAll), w.before args s = true) : ∀ w ∈ xPv, w.before args s = true := fun w hw => h w (List.mem_cons_of_mem _ (List.mem_append_left _ hw))
theorem xPv_pay {c : Cond} {s : State} (h : ∀ w ∈ c :: xAll, ∀ (a' : Array Value) (U : State), s.WarmedH U.vm → w.before a' U = true) {args : Array Value} (hp : ∀ w ∈ xPv, w.before args s = true) : ∀ w ∈ c :: (xPv ++ xAll), ∀ (a' : Array Value) (U : State), s.WarmedH U.vm → w.before a' U = true := by
  intro w hw a' U hW
  rcases List.mem_cons.mp hw with rfl | hw
  · exact h _ List.mem_cons_self a' U hW
  · rcases List.mem_append.mp hw with hw | hw
    · exact xPv_warm hW hw (hp w hw)
    · exact h _ (List.mem_cons_of_mem _ hw) a' U hW
theorem memP {c d : Cond} (h : d ∈ c :: xAll) : d ∈ c :: (xPv ++ xAll) := (List.mem_cons.mp h).elim (fun e => by rw [e]; exact List.mem_cons_self) mP
theorem liftB {R : Room} {s : State} {args : Array Value} {own : String} {idx maxL mc ms n : Nat} {y : MethodName} {bytes : ByteArray} {ret : Option FieldType} {c : Cond} {rm : Room} (cb : CallB R s args own idx y bytes maxL ret (c :: xAll) rm mc ms n) (hp : ∀ w ∈ xPv, w.before args s = true) : CallB R s args own idx y bytes maxL ret (c :: (xPv ++ xAll)) rm mc ms n := by
  obtain ⟨a1, a2, a3, a4, a5, a6, a7⟩ := cb
  exact ⟨a1, a2, a3, a4, xPv_pay a5 hp, memP a6, a7⟩
theorem liftS {R : Room} {s : State} {args : Array Value} {own : String} {idx maxL mc ms n : Nat} {y : MethodName} {bytes : ByteArray} {ret : Option FieldType} {c : Cond} {rm : Room} (cb : va_CS R s args own idx y bytes maxL ret (c :: xAll) rm mc ms n) (hp : ∀ w ∈ xPv, w.before args s = true) : va_CS R s args own idx y bytes maxL ret (c :: (xPv ++ xAll)) rm mc ms n := by
  obtain ⟨⟨a1, a2, a3, a4, a5, a6⟩, a7⟩ := cb
  exact ⟨⟨a1, a2, a3, a4, xPv_pay a5 hp, memP a6⟩, a7⟩
theorem xGSU {own : String} {idx : Nat} {y : MethodName} {a b : Cond} (h1 : Cond.methodLink own idx y ∈ xAll) (h2 : Cond.sameMethod y.cls y.cls y.name y.desc ∈ xAll) (h3 : Cond.superclass own y.cls ∈ xAll) (h4 : Cond.instanceMethod y ∈ xAll) (h5 : Cond.initialized y.cls ∈ xAll) (h6 : b ∈ xAll) : GoodIn (a :: xAll) (va_wsSU own idx y (b :: xAll)) :=
  goodIn_app (xGoodL (fun w hw => by
    simp only [List.mem_cons, List.not_mem_nil, or_false] at hw
    rcases hw with rfl | rfl | rfl | rfl | rfl <;> assumption)) (xGood h6)
/-- a private method, on an object of a class below its own -/
def xCP (R : Room) (s : State) (args : Array Value) (own : String) (index : Nat) (y : MethodName) (bytes : ByteArray) (maxL : Nat) (ret : Option FieldType) (ws : List Cond) (rm : Room) (mc ms n : Nat) : Prop :=
  CallB R s args own index y bytes maxL ret ws rm mc ms n ∧ (Cond.instanceMethod y).before args s = true ∧ (Cond.privateMethod y).before args s = true ∧ ∃ (C : String) (z : MethodName), (Cond.selects C z z).before args s = true ∧ z.cls = y.cls
section XPRIV
variable {p : Program} {l : Launch} {e : Env} {R : Room} {s : State} {m : MethodId} {args : Array Value} {below : List Frame} {meth : Method} {c : Code} {H : Heap} {locs : List Loc} {cells slots : Nat}
variable {y : MethodName} {bytes cc : ByteArray} {maxL nL mc ms n index : Nat} {ret : Option FieldType} {ws : List Cond} {rm : Room} {Pc : Array Value → State → Prop} {Qc : Array Value → State → Outcome → State → Prop} {XC : String → State → State → Prop} {free : Addr → Prop} {Ts : List Cond} {own C : String} {b : Addr} {As rest : List Value} {g : JFrame}
theorem x_callP {T : State} (X : Stand p l e R s m args below meth c T locs cells slots) (hexec : p.tables.exec = Jvm.exec)
    (hown : s.vm.findClass own = some m.cls) (hlink : (Cond.methodLink own index y).before args s = true) (hinst : (Cond.instanceMethod y).before args s = true) (hpriv : (Cond.privateMethod y).before args s = true) {z : MethodName} (hsel : (Cond.selects C z z).before args s = true) (hz : z.cls = y.cls)
    (hcode : (Cond.code y bytes maxL ret).before args s = true) (hy : y.cls ≠ "java/lang/invoke/MethodHandle" ∧ y.cls ≠ "java/lang/invoke/VarHandle")
    {W9 : Nat} {Pre : Pt → Array Value → Prop} {Post : Pt → Array Value → Option Value → Pt → Prop} {PostX : Pt → Array Value → Addr → Pt → Prop} (hK : vx_Back l R p e below s args y 3 W9 Pre Post PostX)
    {cellB : Cell} (hcell : T.heap[b]? = some cellB) (hobj : cellB.vm.isStatics = false)
    (hg : g.method = m) (hsize : g.locals.size = c.maxLocals) {argsL : List Value} (hlen : ∀ sig, parseMethodDescriptor y.desc = some sig → argsL.length = sig.parameters.length)
    (hstack : g.stack = argsL.reverse ++ .ref b :: rest) (hW : 2 * g.monitorRoom + (rest.map fun v => v.category).sum ≤ W9) (hdg : decode c.code g.pc = .ok (.invokevirtual index, 3))
    (hpre : ∀ vm₁, s.WarmedH vm₁ → Pre ⟨T.setVm vm₁, locs, cells, slots⟩ (Value.ref b :: argsL).toArray) :
    (∃ (v : Option Value) (vm₁ : Vm) (B : Pt), s.WarmedH vm₁ ∧ Stand p l e R s m args below meth c B.U B.locs B.cells B.slots ∧ Post ⟨T.setVm vm₁, locs, cells, slots⟩ (Value.ref b :: argsL).toArray v B ∧
      ∀ target, Steps p.tables e below (B.U.setTop { g with pc := g.pc + 3, stack := v.toList ++ rest }) target → Steps p.tables e below (T.setTop g) target) ∨
    (∃ (q : Addr) (vm₁ : Vm) (B : Pt), s.WarmedH vm₁ ∧ Stand p l e R s m args below meth c B.U B.locs B.cells B.slots ∧ PostX ⟨T.setVm vm₁, locs, cells, slots⟩ (Value.ref b :: argsL).toArray q B ∧
      Steps p.tables e below (T.setTop g) ((B.U.setTop { g with stack := rest }).pushFrame (.throwing q))) := by
  obtain ⟨mk, methM, hnamed, hmethM, hstM, habM⟩ := Cond.instanceMethod_spec hinst
  obtain ⟨methM', cM, hmethM', -, -, -, -, -, -, hsigM⟩ := Cond.code_spec hnamed hcode
  cases hmethM.symm.trans hmethM'
  obtain ⟨c2, r2, m2, q1, q2, q3, q4, kP, hkP, hkPi⟩ := Cond.selects_spec hsel
  have hcc : m2.cls = mk.cls := Option.some.inj ((findClass_of_methodNamed q3).symm.trans ((congrArg s.vm.findClass hz).trans (findClass_of_methodNamed hnamed)))
  rw [hcc] at hkP
  have hselP : selectMethod e.platform s.vm cellB.cls mk = .method mk := selectMethod_private hmethM (Cond.privateMethod_at hpriv mk methM hnamed hmethM)
  obtain ⟨vm₁, X₁, hstep₁⟩ := X.invokevirtual hexec hown hlink hnamed hmethM hstM hkP hkPi hy (a := b) (cell := cellB) hcell
    (fun z h => by rw [h] at hobj; cases hobj) hselP hmethM habM hkP hkPi (g := g) hg (argsL := argsL) (rest := rest) (hlen _ hsigM) hstack hdg
  rcases hK m meth c ⟨T.setVm vm₁, locs, cells, slots⟩ { g with stack := rest } (.invokevirtual index) mk (Value.ref b :: argsL).toArray X₁ hg hsize hdg hW (X₁.named hnamed) (hpre vm₁ X₁.warmed) with ⟨v, B, X', hpost, hsteps⟩ | ⟨q, B, X', hpost, hsteps⟩
  · exact Or.inl ⟨v, vm₁, B, X₁.warmed, X', hpost, fun target h => hstep₁ _ fun acts => by rw [doInvoke_state]; exact hsteps.trans h⟩
  · exact Or.inr ⟨q, vm₁, B, X₁.warmed, X', hpost, hstep₁ _ fun acts => by rw [doInvoke_state]; exact hsteps⟩
theorem x_runP (S : CallFix p m c cc nL s args Ts own) (hM : vx_Met l y ws rm Pc Qc XC mc ms free) (cw : xCP R s args own index y bytes maxL ret ws rm mc ms n) (hp : PreV s H C b Pc As)
    (hg : g.method = m) (hn : As.length = n) (hsize : g.locals.size = nL) (hstack : g.stack = As.reverse ++ .ref b :: rest) (hW : 2 * g.monitorRoom + (rest.map fun v => v.category).sum ≤ 8) (hdg : decode cc g.pc = .ok (.invokevirtual index, 3)) (hf : cells + mc ≤ R.cells ∧ slots + ms ≤ R.slots) :
    vx_Run p l e R s m args below meth c H locs cells slots mc ms g rest (Qc (Value.ref b :: As).toArray) XC free := by
  have hK : vx_Back l R p e below s args y 3 8 (PreOf R mc ms Pc) (PostOf Qc mc ms free) (vx_Post XC mc ms free) := vx_callBack cw.1 hM hp.1
  obtain ⟨⟨-, -, -, -, -, -, hcode, -, hy, hlen, hl⟩, hin, hpv, C9, z9, hse, hz⟩ := cw
  obtain ⟨hx, hb, hml, ho, -⟩ := S
  obtain ⟨-, ⟨cellB, hcB, hoB, hclB⟩, hPc⟩ := hp
  intro T hT X
  rcases x_callP X hx (C := C9) (bytes := bytes) (maxL := maxL) (ret := ret) ho hl hin hpv hse hz hcode hy hK (by rw [hT]; exact hcB) hoB hg (hsize.trans hml.symm) (argsL := As) (rest := rest) (fun sig h => hn.trans (hlen sig h)) hstack hW (by rw [hb]; exact hdg)
    (fun vm₁ hW₁ => ⟨hf.1, hf.2, hPc (T.setVm vm₁) hT hW₁⟩) with ⟨v, vm₁, ⟨U', l2, c2, s2⟩, hW₁, X', ⟨g', mk, t, L, e1, e2, hq, h1, hL, h2, h3⟩, st⟩ | ⟨q, vm₁, ⟨U', l2, c2, s2⟩, hW₁, X', ⟨g', mk, t, L, E, ce, e1, e2, hq, hce, hcv, hcl, h1, hL, h2, h3⟩, st⟩
  · dsimp only [Pt.U, Pt.locs, Pt.cells, Pt.slots] at X' e1 e2 h1 h2 h3 st
    subst h1; subst h2; subst h3
    exact Or.inl ⟨v, (T.setVm vm₁).calling g' mk (Value.ref b :: As).toArray, t, U', L, hT, X', hL, e1, e2, hq, st⟩
  · dsimp only [Pt.U, Pt.locs, Pt.cells, Pt.slots] at X' e1 e2 h1 h2 h3 st hcl
    subst h1; subst h2; subst h3
    exact Or.inr ⟨q, (T.setVm vm₁).calling g' mk (Value.ref b :: As).toArray, t, U', L, E, ce, hT, X', hL, e1, e2, hq, hce, hcv, vx_cls hW₁ hcl, st⟩
end XPRIV
def xSvC (M M2 : xM) (C : String) (idx nn : Nat) : Prop := ∀ (s : State) (args : Array Value), (∀ w ∈ mW M, w.before args s = true) → CallW (mR M) s args (mY M).cls C idx (mY M2) (mC M2) (mL M2) (mT M2) (mW M2) (mR M2) (mK M2) (mN M2) nn
def xSuper (M M2 : xM) (idx nn : Nat) : Prop := ∀ (s : State) (args : Array Value), (∀ w ∈ mW M, w.before args s = true) → va_CS (mR M) s args (mY M).cls idx (mY M2) (mC M2) (mL M2) (mT M2) (mW M2) (mR M2) (mK M2) (mN M2) nn
def xSpriv (M M2 : xM) (idx nn : Nat) : Prop := ∀ (s : State) (args : Array Value), (∀ w ∈ mW M, w.before args s = true) → xCP (mR M) s args (mY M).cls idx (mY M2) (mC M2) (mL M2) (mT M2) (mW M2) (mR M2) (mK M2) (mN M2) nn
section XSITES2
variable {M M2 : xM} {E : xE} {Po : xPo} {w0 w : xW} {pc q : Nat} {L : List (Option Value)} {k n k2 n2 : Nat} {idx nn b ci : Nat} {As rest st : List Value} {fs : List Value}
theorem r_callVC {C9 : String} (hd : decode (mC M) pc = .ok (.invokevirtual idx, 3)) (sv : xSvC M M2 C9 idx nn) (hw : w.1 b = some (.inr (ci, fs))) (hc : (vwCl[ci]?).map (fun r => r.1) = some C9) (hH : mH M = []) (hn : As.length = nn) (hrm : (rest.map fun v => v.category).sum ≤ 8) (hq : pc + 3 = q)
    (hk : k + mK M2 = k2) (hn2 : n + mN M2 = n2) (hK : k2 ≤ mK M) (hN : n2 ≤ mN M) (hR : k2 ≤ (mR M).cells ∧ n2 ≤ (mR M).slots) (hst : As.reverse ++ .ref b :: rest = st)
    (hct : Ct M2 E (.ref b :: As) w (xNext M E Po w0 q L rest k2 n2)) : WF M E Po w0 pc L st w k n := by
  subst hq; subst hk; subst hn2; subst hst
  intro p l e s m args below meth c H locs ls C hP hs hS hl
  obtain ⟨hA, hpre⟩ := xPc_at (as := .ref b :: As) C hP hs hS
  obtain ⟨c1, c2, c3, c4, c5, c6, c7, c8, c9, c10, c11, c12⟩ := id C
  have hrecv : ∃ cellB : Cell, H[b]? = some cellB ∧ cellB.vm.isStatics = false ∧ s.vm.findClass C9 = some cellB.cls := by
    obtain ⟨r, h1, cell, q1, q2, q3, q4⟩ := hP.1 b _ hw
    rw [h1] at hc
    exact ⟨cell, q1, by rw [q3]; rfl, by rw [q2, ← Option.some.inj hc]; exact (c11.1.1 ci r h1).2.1⟩
  refine x_call (vx_runV (n := nn) (As := As) (rest := rest) ⟨c1, c2, c4, c6, c5⟩ (hct l c8) (sv s args c5) ⟨xPc_blind, hrecv, fun U hU hW => hpre U hU hW⟩ rfl hn hl.1 rfl (lv_room hrm) hd hR) hS hA (fun X ce q9 u H1 locs1 hp hP1 hsub hS1 h1 h2 h3 => ?_) (fun v u H1 locs1 hp hP1 hsub hS1 => ?_)
  · exact x_out hH C hK hN hp hP1 (fun q h => hA q (hsub q h)) hS1 h1 h2 h3
  · exact hp p l e s m args below meth c H1 locs1 ls C hP1 (fun q h => hA q (hsub q h)) hS1 hl
theorem r_callSp (hd : decode (mC M) pc = .ok (.invokespecial idx, 3)) (sv : xSuper M M2 idx nn) (hw : w.1 b = some (.inr (ci, fs))) (hn : As.length = nn) (hrm : (rest.map fun v => v.category).sum ≤ 8) (hq : pc + 3 = q)
    (hk : k + mK M2 = k2) (hn2 : n + mN M2 = n2) (hR : k2 ≤ (mR M).cells ∧ n2 ≤ (mR M).slots) (hst : As.reverse ++ .ref b :: rest = st)
    (hct : Ct M2 E (.ref b :: As) w (xNextI M E Po w0 q L rest k2 n2)) : WF M E Po w0 pc L st w k n := by
  subst hst
  refine x_callI (fun p l e s m args below meth c H locs ls C hl hM hp => ?_) hq hk hn2 hct
  obtain ⟨c1, c2, c3, c4, c5, c6, c7, c8, c9, c10, c11, c12⟩ := C
  have hP : xP E w H := (hp.2 { s with heap := H } rfl (State.WarmedH.refl s)).2.1
  obtain ⟨r, h1, cell, q1, q2, q3, q4⟩ := hP.1 b _ hw
  have hat := (c11.1.1 ci r h1).2
  have hrecv : ∃ cellB : Cell, H[b]? = some cellB ∧ cellB.vm.isStatics = false ∧ s.vm.findClass r.1 = some cellB.cls := ⟨cell, q1, by rw [q3]; rfl, by rw [q2]; exact hat.1⟩
  exact va_runSU (n := nn) (As := As) (rest := rest) hat ⟨c1, c2, c4, c6, c5⟩ hM (sv s args c5) ⟨hp.1, hrecv, hp.2⟩ rfl hn hl.1 rfl (lv_room hrm) hd (by rw [hk, hn2]; exact hR)
theorem r_callP (hd : decode (mC M) pc = .ok (.invokevirtual idx, 3)) (sv : xSpriv M M2 idx nn) (hw : w.1 b = some (.inr (ci, fs))) (hH : mH M = []) (hn : As.length = nn) (hrm : (rest.map fun v => v.category).sum ≤ 8) (hq : pc + 3 = q)
    (hk : k + mK M2 = k2) (hn2 : n + mN M2 = n2) (hK : k2 ≤ mK M) (hN : n2 ≤ mN M) (hR : k2 ≤ (mR M).cells ∧ n2 ≤ (mR M).slots) (hst : As.reverse ++ .ref b :: rest = st)
    (hct : Ct M2 E (.ref b :: As) w (xNext M E Po w0 q L rest k2 n2)) : WF M E Po w0 pc L st w k n := by
  subst hq; subst hk; subst hn2; subst hst
  intro p l e s m args below meth c H locs ls C hP hs hS hl
  obtain ⟨hA, hpre⟩ := xPc_at (as := .ref b :: As) C hP hs hS
  obtain ⟨c1, c2, c3, c4, c5, c6, c7, c8, c9, c10, c11, c12⟩ := id C
  obtain ⟨r, h1, cell, q1, q2, q3, q4⟩ := hP.1 b _ hw
  have hrecv : ∃ cellB : Cell, H[b]? = some cellB ∧ cellB.vm.isStatics = false ∧ s.vm.findClass r.1 = some cellB.cls := ⟨cell, q1, by rw [q3]; rfl, by rw [q2]; exact (c11.1.1 ci r h1).2.1⟩
  refine x_call (x_runP (n := nn) (As := As) (rest := rest) ⟨c1, c2, c4, c6, c5⟩ (hct l c8) (sv s args c5) ⟨xPc_blind, hrecv, fun U hU hW => hpre U hU hW⟩ rfl hn hl.1 rfl (lv_room hrm) hd hR) hS hA (fun X ce q9 u H1 locs1 hp hP1 hsub hS1 h1 h2 h3 => ?_) (fun v u H1 locs1 hp hP1 hsub hS1 => ?_)
  · exact x_out hH C hK hN hp hP1 (fun q h => hA q (hsub q h)) hS1 h1 h2 h3
  · exact hp p l e s m args below meth c H1 locs1 ls C hP1 (fun q h => hA q (hsub q h)) hS1 hl
theorem r_aretA {v : Value} {ty : FieldType} (hd : decode (mC M) pc = .ok (.areturn, 1)) (hT : mT M = some (.array ty)) (hv : v = .null ∨ ∃ a, v = .ref a) (hk : k ≤ mK M) (hn : n ≤ mN M) (hpo : Po (.inl (some v)) w) : WF M E Po w0 pc L [v] w k n := by
  intro p l e s m args below meth c H locs ls C hP hs hS hl
  obtain ⟨c1, c2, c3, c4, c5, c6, c7, c8, c9, c10, c11, c12⟩ := C
  exact W.widen hk hn (vx_ret (W.aret c1 c2 (c3.trans hT) (Or.inr ⟨_, rfl⟩) hv (fun t ht hW => xEnd hpo hP hs hS ht) hS.2.2 hd c7))
theorem r_baload {a N : Nat} {f : Nat → Int32} {i : Int32} (hd : decode (mC M) pc = .ok (.baload, 1)) (hw : w.1 a = some (.inl (E.1.2 7, N, .inl f))) (hin : vp_in i N) (hq : pc + 1 = q) (kk : WF M E Po w0 q L (.int (f i.toNatClampNeg) :: st) w k n) : WF M E Po w0 pc L (.int i :: .ref a :: st) w k n := by
  subst hq
  intro p l e s m args below meth c H locs ls C hP hs hS hl
  exact va_bald C.1 C.2.1 C.2.2.2.2.2.2.2.2.2.2.1.1 (hP.one hw) 0 7 rfl rfl hin hd (kk p l e s m args below meth c H locs ls C hP hs hS hl)
theorem r_bastore {a N : Nat} {f : Nat → Int32} {i x : Int32} (hd : decode (mC M) pc = .ok (.bastore, 1)) (hw : w.1 a = some (.inl (E.1.2 7, N, .inl f))) (hin : vp_in i N) (hq : pc + 1 = q)
    (kk : WF M E Po w0 q L st (xset w a (.inl (E.1.2 7, N, .inl (upd f i.toNatClampNeg (vp_nar .byte x))))) k n) : WF M E Po w0 pc L (.int x :: .int i :: .ref a :: st) w k n := by
  subst hq
  intro p l e s m args below meth c H locs ls C hP hs hS hl
  have hK := C.2.2.2.2.2.2.2.2.2.2.1.1
  have ha := hs a (xsome hw)
  refine W.bast C.1 C.2.1 (hP.1 a _ hw) ((hK.2 7 (E.1.2 7, .byte) rfl).1 N (fun j => .int (f j))) (fun z => by cases z) (by show ¬ (i < 0 ∨ (arrV _ _ _).slots.size ≤ _); rw [arrV_size]; exact hin) rfl rfl hd fun H1 e9 z oq => ?_
  refine kk p l e s m args below meth c H1 _ ls C (hP.put ?_ oq z) (hs.put ha) (hS.put z oq ha) hl
  show H1[a]? = some (vp_cell _ _)
  rw [e9, vp_cell_i, vp_cell_i, arrV_store]
  congr 2
  funext j
  by_cases hj : j = i.toNatClampNeg
  · subst hj
    simp [updV, upd, vp_nar, narrow]
  · simp [updV, upd, hj]
theorem r_i2b {x : Int32} (hd : decode (mC M) pc = .ok (.i2b, 1)) (hq : pc + 1 = q) (kk : WF M E Po w0 q L (.int x.toInt8.toInt32 :: st) w k n) : WF M E Po w0 pc L (.int x :: st) w k n := by
  subst hq
  intro p l e s m args below meth c H locs ls C hP hs hS hl
  exact lv_i2b C.1 C.2.1 hd rfl (kk p l e s m args below meth c H locs ls C hP hs hS hl)
theorem r_ldcI {v : Int32} (hd : decode (mC M) pc = .ok (.ldc idx, 2)) (hc : Cond.constant (mY M).cls idx v ∈ mW M) (hq : pc + 2 = q) (kk : WF M E Po w0 q L (.int v :: st) w k n) : WF M E Po w0 pc L st w k n := by
  subst hq
  intro p l e s m args below meth c H locs ls C hP hs hS hl
  exact lv_ldc C.1 C.2.1 C.2.2.2.2.2.1 (C.2.2.2.2.1 _ hc) hd (kk p l e s m args below meth c H locs ls C hP hs hS hl)
/-- System.arraycopy between rows of bytes -/
theorem r_copyb {a a0 n0 n1 sa da na : Nat} {f g : Nat → Int32} {sp dp nn : Int32} (hd : decode (mC M) pc = .ok (.invokestatic idx, 3)) (P : xAc M idx) (hw0 : w.1 a0 = some (.inl (E.1.2 7, n0, .inl f))) (hw1 : w.1 a = some (.inl (E.1.2 7, n1, .inl g)))
    (hfit : ∀ j, fits .byte (.int (f j)) = true) (e1 : sp = nI sa) (e2 : dp = nI da) (e3 : nn = nI na) (h4 : sa + na ≤ n0) (h5 : da + na ≤ n1) (hb : n0 < 100000 ∧ n1 < 100000) (hrm : (st.map fun v => v.category).sum ≤ 8) (hq : pc + 3 = q)
    (kk : WF M E Po w0 q L st (xset w a (.inl (E.1.2 7, n1, .inl (va_cpy f g sa da na)))) k n) : WF M E Po w0 pc L (.int nn :: .int dp :: .ref a :: .int sp :: .ref a0 :: st) w k n := by
  subst hq
  obtain ⟨i1, i2, i3⟩ := nI_int e1 (by omega)
  obtain ⟨j1, j2, j3⟩ := nI_int e2 (by omega)
  obtain ⟨l1, l2, l3⟩ := nI_int e3 (by omega)
  intro p l e s m args below meth c H locs ls C hP hs hS hl T hT X
  obtain ⟨p1, p2, p3, p4, p5, p6⟩ := P
  obtain ⟨c1, c2, c3, c4, c5, c6, c7, c8, c9, c10, c11, c12⟩ := id C
  have hK := c11.1
  have hc0 : H[a0]? = some (vp_cell (E.1.2 7) (n0, .inl f)) := hP.1 a0 _ hw0
  have hc1 : H[a]? = some (vp_cell (E.1.2 7) (n1, .inl g)) := hP.1 a _ hw1
  obtain ⟨-, k0, hk0, cm0, hkk0⟩ := (hK.2 7 (E.1.2 7, .byte) rfl).1 n0 (fun j => .int (f j))
  obtain ⟨-, k1, hk1, cm1, hkk1⟩ := (hK.2 7 (E.1.2 7, .byte) rfl).1 n1 (fun j => .int (g j))
  obtain ⟨vm', X', step⟩ := X.arraycopy c1 c6 (c5 _ p1) (c5 _ p2) (c5 _ p3) (c5 _ p4) (src := a0) (dst := a) (cs := vp_cell (E.1.2 7) (n0, .inl f)) (cd := vp_cell (E.1.2 7) (n1, .inl g)) (srcPos := sp) (destPos := dp) (n := nn) (by rw [hT]; exact hc0) (by rw [hT]; exact hc1)
    (fun _ h => by cases h) (fun _ h => by cases h) (fun h => by cases h) (fun h => by cases h) hk0 hk1 hkk0 hkk1 (by simp [refKind]) i1 j1 l1
    (by rw [i3, l3]; show ¬ _ > ((arrV (E.1.2 7) n0 (fun j => .int (f j))).slots.size : Int); rw [arrV_size]; omega)
    (by rw [j3, l3]; show ¬ _ > ((arrV (E.1.2 7) n1 (fun j => .int (g j))).slots.size : Int); rw [arrV_size]; omega)
    (fun vm₁ _ i hi => by
      rw [l2] at hi
      have e : (vp_cell (E.1.2 7) (n0, .inl f)).slots.getD (sp.toNatClampNeg + i) .null = .int (f (sp.toNatClampNeg + i)) := by
        show (arrV (E.1.2 7) n0 (fun j => .int (f j))).slots.getD _ _ = _
        rw [Array.getD_eq_getD_getElem?, arrV_read _ _ (by omega)]
        rfl
      refine ⟨?_, ?_⟩
      · rw [e]; exact hfit _
      · rw [e]; exact trivial)
    (g := F0 m pc ls (.int nn :: .int dp :: .ref a :: .int sp :: .ref a0 :: st)) rfl (by rw [c4]; exact hl.1) (rest := st) rfl (by rw [c2]; exact hd) p5 (by show 2 * 0 + _ + _ ≤ _; omega)
  have e9 : copied (vp_cell (E.1.2 7) (n0, .inl f)) (vp_cell (E.1.2 7) (n1, .inl g)) sp dp nn = vp_cell (E.1.2 7) (n1, .inl (va_cpy f g sa da na)) := by
    have := va_copied (fun z => .int z) (E.1.2 7) (E.1.2 7) (n1 := n1) (dp := dp.toNatClampNeg) (n := nn.toNatClampNeg) (sp := sp.toNatClampNeg) f g (n0 := n0) (by omega)
    rw [i2, j2, l2] at this
    unfold copied
    rw [i2, j2, l2]
    exact this
  rw [e9] at X' step
  have hlt : a < H.size := (Array.getElem?_eq_some_iff.mp hc1).1
  have ha := hs a (xsome hw1)
  generalize hce : vp_cell (E.1.2 7) (n1, .inl (va_cpy f g sa da na)) = ce at X' step
  have hheap : ((T.setVm vm').setCell a ce).heap = H.setIfInBounds a ce := by rw [← hT]; rfl
  have oq : ∀ q : Nat, q ≠ a → (H.setIfInBounds a ce)[q]? = H[q]? := fun q hq => by simp [Array.getElem?_setIfInBounds, Ne.symm hq]
  obtain ⟨t, a1, b1⟩ := kk p l e s m args below meth c _ _ ls C (hP.put (a := a) (H1 := H.setIfInBounds a ce) (show (H.setIfInBounds a ce)[a]? = some _ by rw [← hce]; simp [Array.getElem?_setIfInBounds, hlt]) oq (by simp)) (hs.put ha) ⟨by simp; exact hS.1, fun q g1 g2 => by
      rw [oq q (fun e => g2 (by rw [e]; exact ha))]
      exact hS.2.1 q g1 g2, fun q hq => by
      rcases List.mem_append.mp hq with h | h
      · exact hS.2.2 q h
      · obtain ⟨z, -, hz⟩ := List.mem_map.mp h
        rw [← hz]
        exact ha⟩ hl _ hheap X'
  exact ⟨t, step t a1, b1⟩
/-- System.arraycopy out of a constant's bytes -/
theorem r_copyT {t0 a n0 n1 sa da na : Nat} {f g : Nat → Int32} {sp dp nn : Int32} (hd : decode (mC M) pc = .ok (.invokestatic idx, 3)) (P : xAc M idx) (hT0 : ∀ A U H, xC E A U H → va_T .byte t0 n0 (fun j => .int (f j)) A U H) (hw1 : w.1 a = some (.inl (E.1.2 7, n1, .inl g)))
    (hfit : ∀ j, j < n0 → fits .byte (.int (f j)) = true) (e1 : sp = nI sa) (e2 : dp = nI da) (e3 : nn = nI na) (h4 : sa + na ≤ n0) (h5 : da + na ≤ n1) (hb : n0 < 100000 ∧ n1 < 100000) (hrm : (st.map fun v => v.category).sum ≤ 8) (hq : pc + 3 = q)
    (kk : WF M E Po w0 q L st (xset w a (.inl (E.1.2 7, n1, .inl (va_cpy f g sa da na)))) k n) : WF M E Po w0 pc L (.int nn :: .int dp :: .ref a :: .int sp :: .ref t0 :: st) w k n := by
  subst hq
  obtain ⟨i1, i2, i3⟩ := nI_int e1 (by omega)
  obtain ⟨j1, j2, j3⟩ := nI_int e2 (by omega)
  obtain ⟨l1, l2, l3⟩ := nI_int e3 (by omega)
  intro p l e s m args below meth c H locs ls C hP hs hS hl T hT X
  obtain ⟨p1, p2, p3, p4, p5, p6⟩ := P
  obtain ⟨c1, c2, c3, c4, c5, c6, c7, c8, c9, c10, c11, c12⟩ := id C
  have hK := c11.1
  obtain ⟨cs, g1, g2, g3, g4, g5, g6, g7⟩ := (hT0 _ _ _ c11.2).kept hS.2.1
  have hc1 : H[a]? = some (vp_cell (E.1.2 7) (n1, .inl g)) := hP.1 a _ hw1
  obtain ⟨go, k0, hk0, cm0, hkk0⟩ := g2
  obtain ⟨-, k1, hk1, cm1, hkk1⟩ := (hK.2 7 (E.1.2 7, .byte) rfl).1 n1 (fun j => .int (g j))
  obtain ⟨vm', X', step⟩ := X.arraycopy c1 c6 (c5 _ p1) (c5 _ p2) (c5 _ p3) (c5 _ p4) (src := t0) (dst := a) (cs := cs) (cd := vp_cell (E.1.2 7) (n1, .inl g)) (srcPos := sp) (destPos := dp) (n := nn) (by rw [hT]; exact g1) (by rw [hT]; exact hc1)
    go (fun _ h => by cases h) g3 (fun h => by cases h) hk0 hk1 hkk0 hkk1 (by simp [refKind]) i1 j1 l1
    (by rw [i3, l3]; omega)
    (by rw [j3, l3]; show ¬ _ > ((arrV (E.1.2 7) n1 (fun j => .int (g j))).slots.size : Int); rw [arrV_size]; omega)
    (fun vm₁ _ i hi => by
      rw [l2] at hi
      have e : cs.slots.getD (sp.toNatClampNeg + i) .null = .int (f (sp.toNatClampNeg + i)) := by
        rw [Array.getD_eq_getD_getElem?, g6 _ (by omega)]
        rfl
      refine ⟨?_, ?_⟩
      · rw [e]; exact hfit _ (by omega)
      · rw [e]; exact trivial)
    (g := F0 m pc ls (.int nn :: .int dp :: .ref a :: .int sp :: .ref t0 :: st)) rfl (by rw [c4]; exact hl.1) (rest := st) rfl (by rw [c2]; exact hd) p5 (by show 2 * 0 + _ + _ ≤ _; omega)
  have e9 : copied cs (vp_cell (E.1.2 7) (n1, .inl g)) sp dp nn = vp_cell (E.1.2 7) (n1, .inl (va_cpy f g sa da na)) := by
    have := va_copiedX (fun z => .int z) cs (E.1.2 7) (n1 := n1) (dp := dp.toNatClampNeg) (n := nn.toNatClampNeg) (sp := sp.toNatClampNeg) f g (n0 := n0) g6 (by omega)
    rw [i2, j2, l2] at this
    unfold copied
    rw [i2, j2, l2]
    exact this
  rw [e9] at X' step
  have hlt : a < H.size := (Array.getElem?_eq_some_iff.mp hc1).1
  have ha := hs a (xsome hw1)
  generalize hce : vp_cell (E.1.2 7) (n1, .inl (va_cpy f g sa da na)) = ce at X' step
  have hheap : ((T.setVm vm').setCell a ce).heap = H.setIfInBounds a ce := by rw [← hT]; rfl
  have oq : ∀ q : Nat, q ≠ a → (H.setIfInBounds a ce)[q]? = H[q]? := fun q hq => by simp [Array.getElem?_setIfInBounds, Ne.symm hq]
  obtain ⟨t, a1, b1⟩ := kk p l e s m args below meth c _ _ ls C (hP.put (a := a) (H1 := H.setIfInBounds a ce) (show (H.setIfInBounds a ce)[a]? = some _ by rw [← hce]; simp [Array.getElem?_setIfInBounds, hlt]) oq (by simp)) (hs.put ha) ⟨by simp; exact hS.1, fun q g1 g2 => by
      rw [oq q (fun e => g2 (by rw [e]; exact ha))]
      exact hS.2.1 q g1 g2, fun q hq => by
      rcases List.mem_append.mp hq with h | h
      · exact hS.2.2 q h
      · obtain ⟨z, -, hz⟩ := List.mem_map.mp h
        rw [← hz]
        exact ha⟩ hl _ hheap X'
  exact ⟨t, step t a1, b1⟩
end XSITES2
