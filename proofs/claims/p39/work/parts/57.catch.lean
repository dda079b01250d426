/-! ===== 57.catch: methods that catch; the law's own instructions ===== -/
theorem tab_of (c : Code) : tableOf (c.exceptionTable.toList.map (fun h => (h.startPc, h.endPc, h.handlerPc, h.catchType))) = c.exceptionTable.toList := by
  unfold tableOf
  rw [List.map_map]
  exact (List.map_congr_left (fun _ _ => rfl)).trans (List.map_id _)
theorem Ct.ofH {M : xM} {E : xE} {as : List Value} {w : xW} {Po : xPo} {ws2 : List Cond} (hy : plainName (mY M).cls = true) (hw : mW M = Cond.codeWith (mY M) (mC M) (mL M) (mT M) (mH M) :: ws2) (hcat : ∀ v ∈ as, v.category = 1) (hlen : as.length ≤ mL M) {L : List (Option Value)} (hL : as.map some ++ List.replicate (mL M - as.length) none = L)
    (body : WF M E Po w 0 L [] w 0 0) : Ct M E as w Po := by
  subst hL
  intro l hl
  refine vx_ofWH hy hw ?_
  intro p e s m args below meth c s₁ B hml hv
  obtain ⟨rfl, hP, hK, hC⟩ := hv
  have hlv := lv_entry as (n := mL M) (by rw [lg_sl_len as hcat]; exact hlen)
  rw [lg_entry_eq]
  have hts := atoms_spec (ws := mW M) B.pre
  have htab : c.exceptionTable.toList = tableOf (mH M) := by
    obtain ⟨m9, meth9, c9, hn9, h1, h2, -, -, h7, -⟩ := Cond.codeWith_spec (atoms_spec (ws := mW M) B.pre _ (by rw [hw]; exact List.mem_cons_self))
    cases Option.some.inj (B.named.symm.trans hn9)
    cases Option.some.inj (h1.symm.trans B.method)
    cases Option.some.inj (h2.symm.trans (Stand.of_body B).code)
    rw [← h7]; exact (tab_of _).symm
  refine body p l e s m _ below meth c s.heap [] _ ⟨B.exec, B.bytes, B.returns, hml, hts, findClass_of_methodNamed B.named, B.notSynchronized, hl, htab, (name_of_methodNamed B.named B.method).1, ⟨hK, hC⟩, hP.2⟩ hP (fun q h => Or.inl h) va_S.rf ⟨hlv.1, hlv.2.1, fun i v hi => ?_⟩
  by_cases hil : i < as.length
  · rw [List.getElem?_append_left (by simpa using hil)] at hi
    simp only [List.getElem?_map, Option.map_eq_some_iff] at hi
    obtain ⟨v2, h1, h2⟩ := hi
    have e9 : v2 = v := Option.some.inj h2
    subst e9
    have h5 := lv_args_at as 0 hcat i _ h1
    rw [Nat.zero_add] at h5
    exact hlv.2.2 (_, _) h5
  · rw [List.getElem?_append_right (by simpa using Nat.not_lt.mp hil)] at hi
    have h3 := List.mem_of_getElem? hi
    exact absurd (List.eq_of_mem_replicate h3) (fun h => nomatch h)
/-- what this method's table does with a class thrown at pc: caught by a row, the rows ahead pass it on -/
def xGet (M : xM) (pc : Nat) (X : String) (h : Nat) : Prop := ∃ (pre : List (Nat × Nat × Nat × Nat)) (x : Nat × Nat × Nat × Nat) (suf : List (Nat × Nat × Nat × Nat)), mH M = pre ++ x :: suf ∧ (∀ z ∈ pre, z.2.2.2 ≠ 0 ∧ ∃ nm, Cond.classLink (mY M).cls z.2.2.2 nm ∈ mW M ∧ (X, nm) ∈ xNo) ∧ (x.1 ≤ pc ∧ pc < x.2.1) ∧ x.2.2.2 ≠ 0 ∧ Cond.classLink (mY M).cls x.2.2.2 X ∈ mW M ∧ X ∈ xCa ∧ x.2.2.1 = h
def xNextH (M : xM) (E : xE) (Po : xPo) (w0 : xW) (q pc : Nat) (L : List (Option Value)) (rest : List Value) (k n : Nat) : xPo := fun r u => match r with
  | .inl v => WF M E Po w0 q L (v.toList ++ rest) u k n
  | .inr X => ∃ h, xGet M pc X h ∧ ∀ q9 : Nat, WF M E Po w0 h L [.ref q9] u k n
section XCATCH
variable {M M2 : xM} {E : xE} {Po : xPo} {w0 w : xW} {pc q : Nat} {L : List (Option Value)} {st rest : List Value} {k n : Nat}
theorem x_get {p : Program} {l : Launch} {e : Env} {s : State} {m : MethodId} {args : Array Value} {below : List Frame} {meth : Method} {c : Code} {H1 : Heap} {locs1 : List Loc} {ls : Array Slot} {X : String} {ce : Cell} {q9 : Addr} {k2 n2 h : Nat} {Q : State → Prop}
    (C : xCtx M E w0 p l s m args meth c) (g : xGet M pc X h) (hc : H1[q9]? = some ce) (hv : ce.vm = .none) (hcl : s.vm.findClass X = some ce.cls)
    (kk : W p l e (mR M) s m args below meth c H1 locs1 k2 n2 Q (F0 m h ls [.ref q9])) : vx_W p l e (mR M) s m args below meth c H1 locs1 k2 n2 Q (F0 m pc ls rest) q9 := by
  obtain ⟨c1, c2, c3, c4, c5, c6, c7, c8, c9, c10, c11, c12⟩ := C
  obtain ⟨pre, x, suf, e1, hp, hcv, hx0, hlk, hca, rfl⟩ := g
  have hu : xU s := c11.2.2.2.2.2.2.2.2.1
  refine vx_catch (own := (mY M).cls) (name := X) c6 (tableOf pre) ⟨x.1, x.2.1, x.2.2.1, x.2.2.2⟩ (tableOf suf) ?_ (fun z hz => ?_) ?_ hx0 (c5 _ hlk) (va_tabs rfl rfl (hu.2.2.2.1 X hca)) hc hv hcl kk
  · rw [c9, e1]
    unfold tableOf
    rw [List.map_append, List.map_cons]
  · unfold tableOf at hz
    obtain ⟨y, hy, rfl⟩ := List.mem_map.mp hz
    obtain ⟨h1, nm, h2, h3⟩ := hp y hy
    exact Or.inr ⟨h1, nm, c5 _ h2, hu.2.2.2.2.1 (X, nm) h3⟩
  · show (decide (x.1 ≤ pc) && decide (pc < x.2.1)) = true
    rw [decide_eq_true hcv.1, decide_eq_true hcv.2]; rfl
theorem r_callVH {idx nn b ci k2 n2 : Nat} {As fs : List Value} (hd : decode (mC M) pc = .ok (.invokevirtual idx, 3)) (sv : xSv M M2 idx nn) (hw : w.1 b = some (.inr (ci, fs))) (hc : (vwCl[ci]?).map (fun r => r.1) = some (mY M2).cls) (hn : As.length = nn) (hrm : (rest.map fun v => v.category).sum ≤ 8) (hq : pc + 3 = q)
    (hk : k + mK M2 = k2) (hn2 : n + mN M2 = n2) (hR : k2 ≤ (mR M).cells ∧ n2 ≤ (mR M).slots) (hst : As.reverse ++ .ref b :: rest = st)
    (hct : Ct M2 E (.ref b :: As) w (xNextH M E Po w0 q pc L rest k2 n2)) : WF M E Po w0 pc L st w k n := by
  subst hq; subst hk; subst hn2; subst hst
  intro p l e s m args below meth c H locs ls C hP hs hS hl
  obtain ⟨hA, hpre⟩ := xPc_at (as := .ref b :: As) C hP hs hS
  obtain ⟨c1, c2, c3, c4, c5, c6, c7, c8, c9, c10, c11, c12⟩ := id C
  have hrecv : ∃ cellB : Cell, H[b]? = some cellB ∧ cellB.vm.isStatics = false ∧ s.vm.findClass (mY M2).cls = some cellB.cls := by
    obtain ⟨r, h1, cell, q1, q2, q3, q4⟩ := hP.1 b _ hw
    rw [h1] at hc
    exact ⟨cell, q1, by rw [q3]; rfl, by rw [q2, ← Option.some.inj hc]; exact (c11.1.1 ci r h1).2.1⟩
  refine x_call (vx_runV (n := nn) (As := As) (rest := rest) ⟨c1, c2, c4, c6, c5⟩ (hct l c8) (sv s args c5) ⟨xPc_blind, hrecv, fun U hU hW => hpre U hU hW⟩ rfl hn hl.1 rfl (lv_room hrm) hd hR) hS hA (fun X ce q9 u H1 locs1 hp hP1 hsub hS1 h1 h2 h3 => ?_) (fun v u H1 locs1 hp hP1 hsub hS1 => ?_)
  · obtain ⟨h, g, kk⟩ := hp
    exact x_get C g h1 h2 h3 (kk q9 p l e s m args below meth c H1 locs1 ls C hP1 (fun q h => hA q (hsub q h)) hS1 hl)
  · exact hp p l e s m args below meth c H1 locs1 ls C hP1 (fun q h => hA q (hsub q h)) hS1 hl
/-- a static call of a method that has a table -/
def xSsH (M M2 : xM) (idx nn : Nat) : Prop := ∀ (s : State) (args : Array Value), (∀ w ∈ mW M, w.before args s = true) → vx_CSW (mR M) s args (mY M).cls idx (mY M2) (mC M2) (mL M2) (mT M2) (mH M2) (mW M2) (mR M2) (mK M2) (mN M2) nn
theorem r_callSH {idx nn k2 n2 : Nat} {As : List Value} (hd : decode (mC M) pc = .ok (.invokestatic idx, 3)) (sv : xSsH M M2 idx nn) (hH : mH M = []) (hn : As.length = nn) (hrm : (rest.map fun v => v.category).sum ≤ 8) (hq : pc + 3 = q)
    (hk : k + mK M2 = k2) (hn2 : n + mN M2 = n2) (hK : k2 ≤ mK M) (hN : n2 ≤ mN M) (hR : k2 ≤ (mR M).cells ∧ n2 ≤ (mR M).slots) (hst : As.reverse ++ rest = st)
    (hct : Ct M2 E As w (xNext M E Po w0 q L rest k2 n2)) : WF M E Po w0 pc L st w k n := by
  subst hq; subst hk; subst hn2; subst hst
  intro p l e s m args below meth c H locs ls C hP hs hS hl
  obtain ⟨hA, hpre⟩ := xPc_at (as := As) C hP hs hS
  obtain ⟨c1, c2, c3, c4, c5, c6, c7, c8, c9, c10, c11, c12⟩ := id C
  refine x_call (vx_runSX (n := nn) (As := As) (rest := rest) ⟨c1, c2, c4, c6, c5⟩ (hct l c8) (sv s args c5) ⟨xPc_blind, fun U hU hW => hpre U hU hW⟩ rfl hn hl.1 rfl (lv_room hrm) hd hR) hS hA (fun X ce q9 u H1 locs1 hp hP1 hsub hS1 h1 h2 h3 => ?_) (fun v u H1 locs1 hp hP1 hsub hS1 => ?_)
  · exact x_out hH C hK hN hp hP1 (fun q h => hA q (hsub q h)) hS1 h1 h2 h3
  · exact hp p l e s m args below meth c H1 locs1 ls C hP1 (fun q h => hA q (hsub q h)) hS1 hl
theorem r_lcmp {x y : Int64} (hd : decode (mC M) pc = .ok (.lcmp, 1)) (hq : pc + 1 = q) (kk : WF M E Po w0 q L (.int (lg_cmp x y) :: st) w k n) : WF M E Po w0 pc L (.long y :: .long x :: st) w k n := by
  subst hq; exact r_of (fun _ _ _ _ _ _ _ _ _ _ _ _ _ _ _ _ hx hb hl k => W.lcmp hx hb hd k) kk
theorem r_dcmp {x y : UInt64} {op : CmpOp} (hd : decode (mC M) pc = .ok (.dcmp op, 1)) (hq : pc + 1 = q) (kk : WF M E Po w0 q L (.int (cmpValue (FP.dcmp x y) op) :: st) w k n) : WF M E Po w0 pc L (.double y :: .double x :: st) w k n := by
  subst hq; exact r_of (fun _ _ _ _ _ _ _ _ _ _ _ _ _ _ _ _ hx hb hl k => lv_dcmp hx hb hd k) kk
theorem r_fcmp {x y : UInt32} {op : CmpOp} (hd : decode (mC M) pc = .ok (.fcmp op, 1)) (hq : pc + 1 = q) (kk : WF M E Po w0 q L (.int (cmpValue (FP.fcmp x y) op) :: st) w k n) : WF M E Po w0 pc L (.float y :: .float x :: st) w k n := by
  subst hq; exact r_of (fun _ _ _ _ _ _ _ _ _ _ _ _ _ _ _ _ hx hb hl k => lv_fcmp hx hb hd k) kk
theorem x_scr {p : Program} {l : Launch} {s : State} {m : MethodId} {args : Array Value} {meth : Method} {c : Code} (C : xCtx M E w0 p l s m args meth c) : va_X E.2.2.1 E.2.2.2.1 E.2.2.2.2 s s.heap ∧ E.2.2.1 < s.heap.size ∧ ¬ xA w0 E.2.2.1 := by
  obtain ⟨a, b⟩ := C.2.2.2.2.2.2.2.2.2.2.1.2.2.2.2.2.2.2.1
  obtain ⟨scr, h1, -⟩ := id a
  exact ⟨a, (Array.getElem?_eq_some_iff.mp h1).1, b⟩
theorem r_slen (hd : decode (mC M) pc = .ok (.arraylength, 1)) (hq : pc + 1 = q) (kk : WF M E Po w0 q L (.int (Int32.ofNat E.2.2.2.1) :: st) w k n) : WF M E Po w0 pc L (.ref E.2.2.1 :: st) w k n := by
  subst hq
  intro p l e s m args below meth c H locs ls C hP hs hS hl
  obtain ⟨a, b, d⟩ := x_scr C
  exact va_slen C.1 C.2.1 a b d hS hd (kk p l e s m args below meth c H locs ls C hP hs hS hl)
theorem r_sld {i : Int32} (hd : decode (mC M) pc = .ok (.iaload, 1)) (hin : vp_in i E.2.2.2.1) (hq : pc + 1 = q) (kk : WF M E Po w0 q L (.int (E.2.2.2.2 i.toNatClampNeg) :: st) w k n) : WF M E Po w0 pc L (.int i :: .ref E.2.2.1 :: st) w k n := by
  subst hq
  intro p l e s m args below meth c H locs ls C hP hs hS hl
  obtain ⟨a, b, d⟩ := x_scr C
  exact va_sld C.1 C.2.1 a b d hS hin hd (kk p l e s m args below meth c H locs ls C hP hs hS hl)
end XCATCH
theorem lcmp_s {x : Int64} : lg_cmp x x = 0 := by
  unfold lg_cmp
  rw [if_neg (show ¬ x > x from Int64.lt_irrefl), if_pos rfl]
theorem ord_s {d : FP.Core.Datum} (h : d ≠ .nan) : FP.Core.order d d = some .eq := by
  have c : ∀ z : Int, compare z z = .eq := fun z => by simp [compare, compareOfLessAndEq]
  cases d with
  | nan => exact absurd rfl h
  | inf s => exact congrArg some (c _)
  | fin s c9 q => exact congrArg some (c _)
theorem dcmp_s {v : UInt64} {op : CmpOp} (h : vf_n64 v) : cmpValue (FP.dcmp v v) op = 0 := by
  have e : FP.dcmp v v = some .eq := by
    refine ord_s ?_
    have h1 := UInt64.le_iff_toNat_le.mp h
    rw [UInt64.toNat_and, show (9223372036854775807 : UInt64).toNat = 2 ^ 63 - 1 from by decide, Nat.and_two_pow_sub_one_eq_mod, show (9218868437227405312 : UInt64).toNat = 9218868437227405312 from by decide] at h1
    generalize v.toNat = n at h1
    unfold FP.Core.decode
    have eE : FP.Core.fieldE FP.Core.b64 n = n / 4503599627370496 % 2048 := rfl
    have eT : FP.Core.fieldT FP.Core.b64 n = n % 4503599627370496 := rfl
    have ex : FP.Core.Fmt.exps FP.Core.b64 - 1 = 2047 := by decide
    rw [eE, eT, ex]
    by_cases q : n / 4503599627370496 % 2048 = 2047
    · rw [if_pos q, if_pos (by omega)]
      exact fun z => nomatch z
    · rw [if_neg q]
      split
      · exact fun z => nomatch z
      · exact fun z => nomatch z
  rw [e]; rfl
theorem xL.of2 {ls : Array Slot} {nL : Nat} {L : List (Option Value)} {i : Nat} {v : Value} (h1 : xOne L i)
    (h : lv_has ls nL ((i, v) :: (L.zipIdx.filterMap (fun q => q.1.map (fun v => (q.2, v)))).filter (fun q => !(q.1 == i) && (!(q.1 == i + 1) && !(q.1 + 1 == i && q.2.category == 2))))) : xL ls nL ((L.set i (some v)).set (i + 1) none) := by
  refine ⟨h.1, h.2.1, fun j u hj => ?_⟩
  by_cases hi1 : j = i + 1
  · subst hi1
    have hl := (List.getElem?_eq_some_iff.mp hj).1
    rw [List.length_set] at hl
    rw [List.getElem?_set_self hl] at hj
    cases hj
  · rw [List.getElem?_set_ne (Ne.symm hi1)] at hj
    by_cases hij : j = i
    · subst hij
      have hl : j < L.length := by
        have := (List.getElem?_eq_some_iff.mp hj).1
        simpa using this
      rw [List.getElem?_set_self hl] at hj
      have e9 : v = u := Option.some.inj (Option.some.inj hj)
      subst e9
      exact h.2.2 (_, _) List.mem_cons_self
    · rw [List.getElem?_set_ne (Ne.symm hij)] at hj
      refine h.2.2 (j, u) (List.mem_cons_of_mem _ (List.mem_filter.mpr ⟨xL.mem hj, ?_⟩))
      have hc : ¬ (j + 1 = i ∧ u.category = 2) := by
        rintro ⟨e1, e2⟩
        have h3 := h1 u (by omega) (by rw [show i - 1 = j by omega]; exact hj)
        omega
      simp only [Bool.and_eq_true, Bool.not_eq_true', beq_eq_false_iff_ne, ne_eq, Bool.and_eq_false_iff]
      refine ⟨hij, hi1, ?_⟩
      by_cases e1 : j + 1 = i
      · right
        exact fun e2 => hc ⟨e1, e2⟩
      · left; exact e1
section XLONG
variable {M : xM} {E : xE} {Po : xPo} {w0 w : xW} {pc q : Nat} {L : List (Option Value)} {st : List Value} {k n : Nat}
theorem r_lload_n {i : Nat} {j : Fin 4} {x : Int64} (hd : decode (mC M) pc = .ok (.lload_n j, 1)) (hj : (j : Nat) = i) (hv : L[i]? = some (some (.long x))) (hq : pc + 1 = q) (kk : WF M E Po w0 q L (.long x :: st) w k n) : WF M E Po w0 pc L st w k n := by
  subst hq; exact r_of (fun _ _ _ _ _ _ _ _ _ _ _ _ _ _ _ _ hx hb hl k => lv_lload_n hx hb hd hj (hl.get hv) k) kk
theorem r_lstore_n {i : Nat} {j : Fin 4} {x : Int64} (hd : decode (mC M) pc = .ok (.lstore_n j, 1)) (hj : (j : Nat) = i) (hi : i + 1 < mL M) (h1 : xOne L i) (hq : pc + 1 = q) (kk : WF M E Po w0 q ((L.set i (some (.long x))).set (i + 1) none) st w k n) : WF M E Po w0 pc L (.long x :: st) w k n := by
  subst hq
  intro p l e s m args below meth c H locs ls C hP hs hS hl
  exact lv_lstore_n C.1 C.2.1 hd hj hl.has hi rfl (fun ls2 h2 => kk p l e s m args below meth c H locs ls2 C hP hs hS (xL.of2 h1 h2))
theorem r_ladd {x y : Int64} (hd : decode (mC M) pc = .ok (.ladd, 1)) (hq : pc + 1 = q) (kk : WF M E Po w0 q L (.long (x + y) :: st) w k n) : WF M E Po w0 pc L (.long y :: .long x :: st) w k n := by
  subst hq; exact r_of (fun _ _ _ _ _ _ _ _ _ _ _ _ _ _ _ _ hx hb hl k => lv_ladd hx hb hd k) kk
theorem r_lmul {x y : Int64} (hd : decode (mC M) pc = .ok (.lmul, 1)) (hq : pc + 1 = q) (kk : WF M E Po w0 q L (.long (x * y) :: st) w k n) : WF M E Po w0 pc L (.long y :: .long x :: st) w k n := by
  subst hq; exact r_of (fun _ _ _ _ _ _ _ _ _ _ _ _ _ _ _ _ hx hb hl k => lv_lmul hx hb hd k) kk
theorem r_ldcL {idx : Nat} {v : Int64} (hd : decode (mC M) pc = .ok (.ldc2_w idx, 3)) (hc : Cond.constantLong (mY M).cls idx v ∈ mW M) (hq : pc + 3 = q) (kk : WF M E Po w0 q L (.long v :: st) w k n) : WF M E Po w0 pc L st w k n := by
  subst hq
  intro p l e s m args below meth c H locs ls C hP hs hS hl
  obtain ⟨c1, c2, c3, c4, c5, c6, c7, c8, c9, c10, c11, c12⟩ := id C
  exact lv_ldc2 c1 c2 c6 (c5 _ hc) hd (kk p l e s m args below meth c H locs ls C hP hs hS hl)
theorem r_lret {v : Int64} (hd : decode (mC M) pc = .ok (.lreturn, 1)) (hT : mT M = some .long) (hk : k ≤ mK M) (hn : n ≤ mN M) (hpo : Po (.inl (some (.long v))) w) : WF M E Po w0 pc L [.long v] w k n := by
  intro p l e s m args below meth c H locs ls C hP hs hS hl
  obtain ⟨c1, c2, c3, c4, c5, c6, c7, c8, c9, c10, c11, c12⟩ := C
  exact W.widen hk hn (vx_ret (W.lret c1 c2 (c3.trans hT) (fun t ht hW => xEnd hpo hP hs hS ht) hS.2.2 hd c7))
end XLONG
theorem fcmp_s {v : UInt32} {op : CmpOp} (h : vf_n32 v) : cmpValue (FP.fcmp v v) op = 0 := by
  have e : FP.fcmp v v = some .eq := by
    refine ord_s ?_
    have h1 := UInt32.le_iff_toNat_le.mp h
    rw [UInt32.toNat_and, show (2147483647 : UInt32).toNat = 2 ^ 31 - 1 from by decide, Nat.and_two_pow_sub_one_eq_mod, show (2139095040 : UInt32).toNat = 2139095040 from by decide] at h1
    generalize v.toNat = n at h1
    unfold FP.Core.decode
    have eE : FP.Core.fieldE FP.Core.b32 n = n / 8388608 % 256 := rfl
    have eT : FP.Core.fieldT FP.Core.b32 n = n % 8388608 := rfl
    have ex : FP.Core.Fmt.exps FP.Core.b32 - 1 = 255 := by decide
    rw [eE, eT, ex]
    by_cases q : n / 8388608 % 256 = 255
    · rw [if_pos q, if_pos (by omega)]
      exact fun z => nomatch z
    · rw [if_neg q]
      split
      · exact fun z => nomatch z
      · exact fun z => nomatch z
  rw [e]; rfl
/-! worlds -/
theorem HI.ag {E : xE} {w u : xW} {x : Nat} {h : xHi} (H : HI E w x h) (ha : ∀ q, HF x h q → u.1 q = w.1 q) (hz : w.2 ≤ u.2) : HI E u x h := by
  have hi : ∀ q, x ≤ q → q < x + 330 → u.1 q = w.1 q := fun q h1 h2 => ha q (Or.inl ⟨h1, h2⟩)
  obtain ⟨⟨a1, a2, a3, a4⟩, ⟨b1, b2, b3, b4⟩, ⟨c1, c2, c3⟩, d1, d2, d3, d4, d5⟩ := H
  exact ⟨⟨(hi _ (by omega) (by omega)).trans a1, (hi _ (by omega) (by omega)).trans a2, (hi _ (by omega) (by omega)).trans a3, a4⟩, ⟨fun o ho => (hi _ (by omega) (by omega)).trans (b1 o ho), fun o ho => (hi _ (by omega) (by omega)).trans (b2 o ho), fun o ho => (hi _ (by omega) (by omega)).trans (b3 o ho), fun i hi9 o ho => (hi _ (by omega) (by omega)).trans (b4 i hi9 o ho)⟩, ⟨(hi _ (by omega) (by omega)).trans c1, (hi _ (by omega) (by omega)).trans c2, c3⟩, (hi _ (by omega) (by omega)).trans d1, (ha _ (Or.inr rfl)).trans d2, d3, Nat.lt_of_lt_of_le d4 hz, Nat.le_trans d5 hz⟩
