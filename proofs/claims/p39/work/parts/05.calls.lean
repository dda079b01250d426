/-! ===== 05.calls: contracts, calls, throws, making ===== -/
section XCALLS
variable {p : Program} {l : Launch} {e : Env} {R : Room} {s : State} {m : MethodId} {args : Array Value} {below : List Frame} {meth : Method} {c : Code} {H : Heap} {locs : List Loc} {cells slots : Nat} {Q : State → Prop}
variable {mc ms : Nat} {A0 A1 : Nat → Prop} {H0 : Heap} {a : Array Value} {pc : Nat} {ls : Array Slot} {st0 rest : List Value}
theorem x_call {E : xE} {Po : xPo} (hr : vx_Run p l e R s m args below meth c H locs cells slots mc ms (F0 m pc ls st0) rest (xQ E Po A1 a) (xX E Po A1) A1) (hS : va_S A0 H0 H locs) (hA : ∀ q, A1 q → A0 q)
    (kx : ∀ (X : String) (ce : Cell) (q9 : Addr) (u : xW) (H1 : Heap) (locs1 : List Loc), Po (.inr X) u → xP E u H1 → xSub u A1 → va_S A0 H0 H1 locs1 → H1[q9]? = some ce → ce.vm = .none → s.vm.findClass X = some ce.cls → vx_W p l e R s m args below meth c H1 locs1 (cells + mc) (slots + ms) Q (F0 m pc ls rest) q9)
    (kk : ∀ (v : Option Value) (u : xW) (H1 : Heap) (locs1 : List Loc), Po (.inl v) u → xP E u H1 → xSub u A1 → va_S A0 H0 H1 locs1 → W p l e R s m args below meth c H1 locs1 (cells + mc) (slots + ms) Q (F0 m (pc + 3) ls (v.toList ++ rest))) : W p l e R s m args below meth c H locs cells slots Q (F0 m pc ls st0) := by
  intro T hT X
  rcases hr T hT X with ⟨v, st₀, t, T', L, h0, X', hL, e1, e2, ⟨⟨v2, u, hv, hp, hb, hsub⟩, hF⟩, st⟩ | ⟨q, st₀, t, T', L, Xn, ce, h0, X', hL, e1, e2, ⟨⟨u, hp, hb, hsub⟩, hF⟩, hce, hcv, hcl, st⟩
  · cases hv
    obtain ⟨k1, k2, k3⟩ := vx_keep h0 e1 hS (fun q _ h => hA q h) hA hL hF
    obtain ⟨t2, a1, b1⟩ := kk v u T'.heap (locs ++ L) hp (by rw [e1]; exact hb) hsub k3 T' rfl X'
    exact ⟨t2, st t2 a1, b1⟩
  · obtain ⟨k1, k2, k3⟩ := vx_keep h0 e1 hS (fun q _ h => hA q h) hA hL hF
    obtain ⟨t2, a1, b1⟩ := kx Xn ce q u T'.heap (locs ++ L) hp (by rw [e1]; exact hb) hsub k3 (by rw [e1]; exact hce) hcv hcl T' rfl X'
    exact ⟨t2, st.trans a1, b1⟩
end XCALLS
theorem xPc_blind {E : xE} {as : List Value} {w : xW} : FrameBlind (xPc E as w) := by
  intro a U g mk h
  obtain ⟨h1, h2, h3, h4⟩ := h
  exact ⟨h1, h2, va_K.moved (u := U) (U := U.calling g mk a) (Vm.Alike.refl U.vm) h3, xC.at (u := U) (State.WarmedH.refl U) h4 (fun _ _ _ => rfl) (fun _ h => h)⟩
theorem xA_sub {w : xW} {A : Nat → Prop} (hs : xSub w A) (hA : ∀ q, w.2 ≤ q → A q) : ∀ q, xA w q → A q := fun q h => h.elim (hs q) (hA q)
/-- a world's start for a callee, out of the caller's -/
theorem xPc_at {M : xM} {E : xE} {as : List Value} {w0 w : xW} {p : Program} {l : Launch} {s : State} {m : MethodId} {args : Array Value} {meth : Method} {c : Code} {H : Heap} {locs : List Loc} (C : xCtx M E w0 p l s m args meth c) (hP : xP E w H) (hs : xSub w (xA w0)) (hS : va_S (xA w0) s.heap H locs) :
    (∀ q, xA w q → xA w0 q) ∧ ∀ U : State, U.heap = H → s.WarmedH U.vm → xPc E as w as.toArray U := by
  obtain ⟨c1, c2, c3, c4, c5, c6, c7, c8, c9, c10, c11, c12⟩ := C
  have hA : ∀ q, xA w q → xA w0 q := xA_sub hs (fun q hq => Or.inr (by
    have h1 := hS.1
    have h2 := hP.2
    omega))
  refine ⟨hA, fun U hU hW => ⟨rfl, by rw [hU]; exact hP, va_K.moved hW.alike c11.1, ?_⟩⟩
  rw [hU]
  exact xC.at hW c11.2 hS.2.1 hA
theorem Ct.mono {M : xM} {E : xE} {as : List Value} {w : xW} {Po Po2 : xPo} (h : Ct M E as w Po) (hm : ∀ r u, Po r u → Po2 r u) : Ct M E as w Po2 := by
  intro l hl p e ha hc hk s mm args below hf hap hP hK
  obtain ⟨n, o, h1, h2, h3, h4⟩ := h l hl p e ha hc hk s mm args below hf hap hP hK
  refine ⟨n, o, h1, h2, h3, ?_⟩
  rcases h4 with ⟨⟨⟨v, u, a1, a2, a3⟩, a4⟩, a5⟩ | ⟨q, rfl, Xn, ce, L, ⟨⟨u, a1, a2⟩, a3⟩, a4⟩
  · exact Or.inl ⟨⟨⟨v, u, a1, hm _ _ a2, a3⟩, a4⟩, a5⟩
  · exact Or.inr ⟨q, rfl, Xn, ce, L, ⟨⟨u, hm _ _ a1, a2⟩, a3⟩, a4⟩
/-- a method that never throws, as a plain contract -/
theorem Ct.met {M : xM} {E : xE} {as : List Value} {w : xW} {Po : xPo} (h : Ct M E as w Po) (hx : ∀ X u, ¬ Po (.inr X) u) {l : Launch} (hl : l.stackTraces = false) : Met l (mY M) (mW M) (mR M) (xPc E as w) (xQ E Po (xA w)) (mK M) (mN M) (xA w) := by
  intro p e ha hc hk s mm args below hf hap hP hK
  obtain ⟨n, o, h1, h2, h3, h4⟩ := h l hl p e ha hc hk s mm args below hf hap hP hK
  refine ⟨n, o, h1, h2, h3, ?_⟩
  rcases h4 with h5 | ⟨q, rfl, Xn, ce, L, ⟨⟨u, a1, a2⟩, a3⟩, a4⟩
  · exact h5
  · exact absurd a1 (hx _ _)
/-- static facts of a call's site -/
def xSv (M M2 : xM) (idx nn : Nat) : Prop := ∀ (s : State) (args : Array Value), (∀ w ∈ mW M, w.before args s = true) → CallW (mR M) s args (mY M).cls (mY M2).cls idx (mY M2) (mC M2) (mL M2) (mT M2) (mW M2) (mR M2) (mK M2) (mN M2) nn
def xSs (M M2 : xM) (idx nn : Nat) : Prop := ∀ (s : State) (args : Array Value), (∀ w ∈ mW M, w.before args s = true) → CallB (mR M) s args (mY M).cls idx (mY M2) (mC M2) (mL M2) (mT M2) (mW M2) (mR M2) (mK M2) (mN M2) nn ∧ (Cond.static (mY M2)).before args s = true
def xSi (M M2 : xM) (idx nn : Nat) : Prop := ∀ (s : State) (args : Array Value), (∀ w ∈ mW M, w.before args s = true) → CallB (mR M) s args (mY M).cls idx (mY M2) (mC M2) (mL M2) none (mW M2) (mR M2) (mK M2) (mN M2) nn ∧ (mY M2).name = "<init>" ∧ (Cond.instanceMethod (mY M2)).before args s = true
/-- what a call's end means for its caller -/
def xNext (M : xM) (E : xE) (Po : xPo) (w0 : xW) (q : Nat) (L : List (Option Value)) (rest : List Value) (k n : Nat) : xPo := fun r u => match r with
  | .inl v => WF M E Po w0 q L (v.toList ++ rest) u k n
  | .inr X => Po (.inr X) u
section XSITES
variable {M M2 : xM} {E : xE} {Po : xPo} {w0 w : xW} {pc q : Nat} {L : List (Option Value)} {k n k2 n2 : Nat} {idx nn b ci : Nat} {As rest st : List Value} {fs : List Value}
theorem x_out (hH : mH M = []) {p : Program} {l : Launch} {e : Env} {s : State} {m : MethodId} {args : Array Value} {below : List Frame} {meth : Method} {c : Code} {H1 : Heap} {locs1 : List Loc} {ls : Array Slot} {X : String} {ce : Cell} {q9 : Addr} {u : xW}
    (C : xCtx M E w0 p l s m args meth c) (hk : k2 ≤ mK M) (hn : n2 ≤ mN M) (hp : Po (.inr X) u) (hP1 : xP E u H1) (hsub : xSub u (xA w0)) (hS1 : va_S (xA w0) s.heap H1 locs1) (hc : H1[q9]? = some ce) (hv : ce.vm = .none) (hcl : s.vm.findClass X = some ce.cls) :
    vx_W p l e (mR M) s m args below meth c H1 locs1 k2 n2 (vx_MQ below (xQ E Po (xA w0)) (xX E Po (xA w0)) args s (mK M) (mN M) (xA w0)) (F0 m pc ls rest) q9 := by
  obtain ⟨c1, c2, c3, c4, c5, c6, c7, c8, c9, c10, c11, c12⟩ := C
  refine vx_out (fun x hx => ?_) c7 hc hv hcl (fun t ht hal => ⟨⟨u, hp, by rw [ht]; exact hP1, hsub⟩, hS1.F ht⟩) hS1.2.2 hk hn
  rw [c9, hH] at hx
  exact absurd hx List.not_mem_nil
theorem r_callV (hd : decode (mC M) pc = .ok (.invokevirtual idx, 3)) (sv : xSv M M2 idx nn) (hw : w.1 b = some (.inr (ci, fs))) (hc : (vwCl[ci]?).map (fun r => r.1) = some (mY M2).cls) (hH : mH M = []) (hn : As.length = nn) (hrm : (rest.map fun v => v.category).sum ≤ 8) (hq : pc + 3 = q)
    (hk : k + mK M2 = k2) (hn2 : n + mN M2 = n2) (hK : k2 ≤ mK M) (hN : n2 ≤ mN M) (hR : k2 ≤ (mR M).cells ∧ n2 ≤ (mR M).slots) (hst : As.reverse ++ .ref b :: rest = st)
    (hct : Ct M2 E (.ref b :: As) w (xNext M E Po w0 q L rest k2 n2)) : WF M E Po w0 pc L st w k n := by
  subst hq; subst hk; subst hn2; subst hst
  intro p l e s m args below meth c H locs ls C hP hs hS hl
  obtain ⟨hA, hpre⟩ := xPc_at (as := .ref b :: As) C hP hs hS
  obtain ⟨c1, c2, c3, c4, c5, c6, c7, c8, c9, c10, c11, c12⟩ := id C
  have hrecv : ∃ cellB : Cell, H[b]? = some cellB ∧ cellB.vm.isStatics = false ∧ s.vm.findClass (mY M2).cls = some cellB.cls := by
    obtain ⟨r, h1, cell, q1, q2, q3, q4⟩ := hP.1 b _ hw
    rw [h1] at hc
    exact ⟨cell, q1, by rw [q3]; rfl, by rw [q2, ← Option.some.inj hc]; exact (c11.1.1 ci r h1).2.1⟩
  refine x_call (vx_runV (n := nn) (As := As) (rest := rest) ⟨c1, c2, c4, c6, c5⟩ (hct l c8) (sv s args c5) ⟨xPc_blind, hrecv, fun U hU hW => hpre U hU hW⟩ rfl hn hl.1 rfl (lv_room hrm) hd hR) hS hA (fun X ce q9 u H1 locs1 hp hP1 hsub hS1 h1 h2 h3 => ?_) (fun v u H1 locs1 hp hP1 hsub hS1 => ?_)
  · exact x_out hH C hK hN hp hP1 (fun q h => hA q (hsub q h)) hS1 h1 h2 h3
  · exact hp p l e s m args below meth c H1 locs1 ls C hP1 (fun q h => hA q (hsub q h)) hS1 hl
theorem r_callS (hd : decode (mC M) pc = .ok (.invokestatic idx, 3)) (sv : xSs M M2 idx nn) (hH : mH M = []) (hn : As.length = nn) (hrm : (rest.map fun v => v.category).sum ≤ 8) (hq : pc + 3 = q)
    (hk : k + mK M2 = k2) (hn2 : n + mN M2 = n2) (hK : k2 ≤ mK M) (hN : n2 ≤ mN M) (hR : k2 ≤ (mR M).cells ∧ n2 ≤ (mR M).slots) (hst : As.reverse ++ rest = st)
    (hct : Ct M2 E As w (xNext M E Po w0 q L rest k2 n2)) : WF M E Po w0 pc L st w k n := by
  subst hq; subst hk; subst hn2; subst hst
  intro p l e s m args below meth c H locs ls C hP hs hS hl
  obtain ⟨hA, hpre⟩ := xPc_at (as := As) C hP hs hS
  obtain ⟨c1, c2, c3, c4, c5, c6, c7, c8, c9, c10, c11, c12⟩ := id C
  refine x_call (vx_runS (n := nn) (As := As) (rest := rest) ⟨c1, c2, c4, c6, c5⟩ (hct l c8) (sv s args c5) ⟨xPc_blind, fun U hU hW => hpre U hU hW⟩ rfl hn hl.1 rfl (lv_room hrm) hd hR) hS hA (fun X ce q9 u H1 locs1 hp hP1 hsub hS1 h1 h2 h3 => ?_) (fun v u H1 locs1 hp hP1 hsub hS1 => ?_)
  · exact x_out hH C hK hN hp hP1 (fun q h => hA q (hsub q h)) hS1 h1 h2 h3
  · exact hp p l e s m args below meth c H1 locs1 ls C hP1 (fun q h => hA q (hsub q h)) hS1 hl
end XSITES
/-- a contract out of a walk -/
theorem lv_args_at : ∀ (vs : List Value) (j : Nat), (∀ v ∈ vs, v.category = 1) → ∀ (i : Nat) (v : Value), vs[i]? = some v → (j + i, v) ∈ lv_args j vs
  | [], _, _, i, v, h => by simp at h
  | u :: vs, j, hc, i, v, h => by
    have hu : u.category = 1 := hc u List.mem_cons_self
    cases i with
    | zero =>
      simp at h
      subst h
      simp [lv_args]
    | succ i =>
      have h2 := lv_args_at vs (j + 1) (fun v hv => hc v (List.mem_cons_of_mem _ hv)) i v (by simpa using h)
      rw [lv_args, hu]
      refine List.mem_cons_of_mem _ ?_
      rw [show j + (i + 1) = j + 1 + i by omega]
      simpa using h2
theorem lg_sl_len : ∀ (vs : List Value), (∀ v ∈ vs, v.category = 1) → (lg_sl vs).length = vs.length
  | [], _ => rfl
  | u :: vs, hc => by
    have hu : u.category = 1 := hc u List.mem_cons_self
    have h2 := lg_sl_len vs (fun v hv => hc v (List.mem_cons_of_mem _ hv))
    simp only [lg_sl, List.flatMap_cons, List.length_append, hu] at h2 ⊢
    simp [h2]
    omega
theorem x_ofW {l : Launch} {y : MethodName} {ws ws' : List Cond} {rm : Room} {Pc : Array Value → State → Prop} {Qc : Array Value → State → Outcome → State → Prop} {XC : String → State → State → Prop} {mc ms : Nat} {free : Addr → Prop} {cc : ByteArray} {maxL : Nat} {ret : Option FieldType}
    (hy : plainFor y = true) (hw : ws = Cond.code y cc maxL ret :: ws')
    (body : ∀ p e s m args below meth c s₁, BodyLoose p l y (headSpec ws rm) cc maxL ret e s m args below meth c s₁ → c.maxLocals = maxL → (∀ x ∈ c.exceptionTable.toList, False) → Pc args s →
      W p l e (headSpec ws rm).room s m args below meth c s.heap [] 0 0 (vx_MQ below Qc XC args s mc ms free) (entryFrame m args maxL)) : vx_Met l y ws rm Pc Qc XC mc ms free := by
  refine MetFree.of_bodySF (code := cc) (maxLocals := maxL) (ret := ret) hy ?_ ?_
  · intro args s m h hn
    obtain ⟨meth, c, h1, h2, h3, h4, h5, h6, -, -⟩ := Cond.code_spec hn (atoms_spec (ws := ws) h _ (by rw [hw]; exact List.mem_cons_self))
    exact ⟨meth, c, h1, h2, h3, h4, h5, h6⟩
  · intro p e s m args below meth c s₁ B hml hP _
    have hh0 : s₁.heap = s.heap := by rw [B.state]; rfl
    have ht : ∀ x ∈ c.exceptionTable.toList, False := by
      obtain ⟨meth9, c9, h1, h2, -, -, -, -, h7, -⟩ := Cond.code_spec B.named (atoms_spec (ws := ws) B.pre _ (by rw [hw]; exact List.mem_cons_self))
      cases Option.some.inj (h1.symm.trans B.method)
      cases Option.some.inj (h2.symm.trans (Stand.of_body B).code)
      intro x hx
      rw [Array.isEmpty_iff.mp h7] at hx
      cases hx
    obtain ⟨t, a1, o, b1, b2, b3⟩ := body p e s m args below meth c s₁ B hml ht hP s₁ hh0 (Stand.of_body B)
    exact ⟨t, o, a1, b1, b2, b3⟩
theorem Ct.of {M : xM} {E : xE} {as : List Value} {w : xW} {Po : xPo} {ws2 : List Cond} (hy : plainFor (mY M) = true) (hw : mW M = Cond.code (mY M) (mC M) (mL M) (mT M) :: ws2) (hH : mH M = []) (hcat : ∀ v ∈ as, v.category = 1) (hlen : as.length ≤ mL M) {L : List (Option Value)} (hL : as.map some ++ List.replicate (mL M - as.length) none = L)
    (body : WF M E Po w 0 L [] w 0 0) : Ct M E as w Po := by
  subst hL
  intro l hl
  refine x_ofW hy hw ?_
  intro p e s m args below meth c s₁ B hml htab hv
  obtain ⟨rfl, hP, hK, hC⟩ := hv
  have hlv := lv_entry as (n := mL M) (by rw [lg_sl_len as hcat]; exact hlen)
  rw [lg_entry_eq]
  have hts := atoms_spec (ws := mW M) B.pre
  refine body p l e s m _ below meth c s.heap [] _ ⟨B.exec, B.bytes, B.returns, hml, hts, findClass_of_methodNamed B.named, B.notSynchronized, hl, ?_, (name_of_methodNamed B.named B.method).1, ⟨hK, hC⟩, hP.2⟩ hP (fun q h => Or.inl h) va_S.rf ⟨hlv.1, hlv.2.1, fun i v hi => ?_⟩
  · rw [hH]
    exact List.eq_nil_iff_forall_not_mem.mpr (fun x hx => htab x hx)
  · by_cases hil : i < as.length
    · rw [List.getElem?_append_left (by simpa using hil)] at hi
      simp only [List.getElem?_map, Option.map_eq_some_iff] at hi
      obtain ⟨v2, h1, h2⟩ := hi
      have e9 : v2 = v := Option.some.inj h2
      subst e9
      have h5 := lv_args_at as 0 hcat i _ h1
      rw [Nat.zero_add] at h5
      exact hlv.2.2 (_, _) h5
    · rw [List.getElem?_append_right (by simpa using Nat.not_lt.mp hil)] at hi
      have h3 := List.mem_of_getElem? hi
      exact absurd (List.eq_of_mem_replicate h3) (fun h => nomatch h)
