/-! ===== 19.make: objects and arrays made, constructors called ===== -/
def xadd (w : xW) (e : va_E) : xW := (fun q => if q = w.2 then some e else w.1 q, w.2 + 1)
theorem xadd_s {w : xW} {e : va_E} : (xadd w e).1 w.2 = some e := if_pos rfl
theorem xadd_o {w : xW} {q : Nat} {e : va_E} (h : q ≠ w.2) : (xadd w e).1 q = w.1 q := if_neg h
theorem xadd_2 {w : xW} {e : va_E} : (xadd w e).2 = w.2 + 1 := rfl
theorem xP.add {E : xE} {w : xW} {H H1 : Heap} {e : va_E} (h : xP E w H) (he : va_at E.1.1 vwCl (w.2, e) H1) (oq : ∀ q : Nat, q < w.2 → H1[q]? = H[q]?) (hz : H1.size = w.2 + 1) : xP E (xadd w e) H1 := by
  refine ⟨fun q x hq => ?_, hz⟩
  by_cases hqa : q = w.2
  · subst hqa
    rw [xadd_s] at hq
    cases hq
    exact he
  · rw [xadd_o hqa] at hq
    have hl := h.lt (a := q) (by rw [hq]; exact fun z => nomatch z)
    rw [h.2] at hl
    exact (h.1 q x hq).kept (oq q hl)
theorem xSub.add {w : xW} {A : Nat → Prop} {e : va_E} (h : xSub w A) (ha : A w.2) : xSub (xadd w e) A := by
  intro q hq
  by_cases hqa : q = w.2
  · subst hqa; exact ha
  · rw [xadd_o hqa] at hq; exact h q hq
def xNew (M : xM) (idx ci nf : Nat) (fs : List Value) : Prop :=
  ∃ (C : String) (T : u_T) (tyf : Nat → FieldType), vwCl[ci]? = some (C, T, nf) ∧ (∀ w ∈ u_ws C T nf, w ∈ mW M) ∧ Cond.classLink (mY M).cls idx C ∈ mW M ∧ Cond.instantiable C nf ∈ mW M ∧ Cond.initialized C ∈ mW M ∧ (∀ j, j < nf → parseFieldDescriptor (T j).2.2.1 = some (tyf j)) ∧ (∀ j, j < nf → defaultValue (tyf j) = vp_V fs j)
def xNextI (M : xM) (E : xE) (Po : xPo) (w0 : xW) (q : Nat) (L : List (Option Value)) (rest : List Value) (k n : Nat) : xPo := fun r u => match r with
  | .inl v => WF M E Po w0 q L (v.toList ++ rest) u k n
  | .inr _ => False
section XMAKE
variable {M M2 : xM} {E : xE} {Po : xPo} {w0 w : xW} {pc q : Nat} {L : List (Option Value)} {st rest : List Value} {k n k2 n2 : Nat}
theorem r_objInit {idx a : Nat} (hd : decode (mC M) pc = .ok (.invokespecial idx, 3)) (h1 : Cond.methodLink (mY M).cls idx Lib.objectInit ∈ mW M) (h2 : Cond.instanceMethod Lib.objectInit ∈ mW M) (h3 : Cond.code Lib.objectInit ⟨#[0xb1]⟩ 1 none ∈ mW M) (hrm : (st.map fun v => v.category).sum ≤ 8) (hf : 1 ≤ (mR M).frames) (hlo : 20 ≤ (mR M).locals) (hq : pc + 3 = q)
    (kk : WF M E Po w0 q L st w k n) : WF M E Po w0 pc L (.ref a :: st) w k n := by
  subst hq
  intro p l e s m args below meth c H locs ls C hP hs hS hl
  obtain ⟨c1, c2, c3, c4, c5, c6, c7⟩ := id C
  exact W.objInit c1 c2 c6 (c5 _ h1) (c5 _ h2) (c5 _ h3) rfl (hl.1.trans c4.symm) (a := a) (rest := st) rfl hd hf (by show 2 * 0 + _ + 12 ≤ _; omega) (kk p l e s m args below meth c H locs ls C hP hs hS hl)
theorem r_new {idx ci nf : Nat} {fs : List Value} (hd : decode (mC M) pc = .ok (.new idx, 3)) (N : xNew M idx ci nf fs) (hc : k + 1 ≤ (mR M).cells) (hsl : n + nf ≤ (mR M).slots) (hq : pc + 3 = q)
    (kk : WF M E Po w0 q L (.ref w.2 :: st) (xadd w (.inr (ci, fs))) (k + 1) (n + nf)) : WF M E Po w0 pc L st w k n := by
  subst hq
  intro p l e s m args below meth c H locs ls C hP hs hS hl
  obtain ⟨c1, c2, c3, c4, c5, c6, c7, c8, c9, c10, c11, c12⟩ := id C
  obtain ⟨Cn, T, tyf, g1, g2, g3, g4, g5, g6, g7⟩ := N
  have hKn := c11.1.1 ci _ g1
  refine W.newcK c1 c2 c6 (c5 _ g3) (c5 _ g4) (c5 _ g5) rfl hd hc hsl hKn.2.1 hP.2 fun H1 kC hkC e1 z1 o1 => ?_
  have hA : xA w0 w.2 := Or.inr (by have h1 := hS.1; have h2 := hP.2; omega)
  exact kk p l e s m args below meth c H1 locs ls C (hP.add ⟨_, g1, (u_born tyf c5 g2 hKn hkC e1 g6).to g7⟩ o1 z1) (hs.add hA) ⟨Nat.le_trans hS.1 (by have := hP.2; omega), fun x h1 h2 => (o1 x (by have h3 := hS.1; have h4 := hP.2; omega)).trans (hS.2.1 x h1 h2), hS.2.2⟩ hl
theorem r_newarray {at' : ArrayType} {ty : FieldType} {t0 N : Nat} {cA : ClassId} {a0 : vp_A} {x : Int32} (hd : decode (mC M) pc = .ok (.newarray at', 2)) (hty : newarray.typeOf at' = ty) (hw : Cond.arrayClass ty ∈ mW M) (ht : (xTys E)[t0]? = some (cA, ty)) (hra : ∀ U : State, va_RA U cA ty → U.vm.findClass ("[" ++ ty.toString) = some cA)
    (ha : vp_cell cA a0 = arrV cA N (fun _ => defaultValue ty)) (hx : ¬ x < 0) (hN : x.toNatClampNeg = N) (hb : N * componentBytes ty ≤ 536870912) (hc : k + 1 ≤ (mR M).cells) (hsl : n + N ≤ (mR M).slots) (hq : pc + 2 = q)
    (kk : WF M E Po w0 q L (.ref w.2 :: st) (xadd w (.inl (cA, a0))) (k + 1) (n + N)) : WF M E Po w0 pc L (.int x :: st) w k n := by
  subst hq; subst hty
  intro p l e s m args below meth c H locs ls C hP hs hS hl
  obtain ⟨c1, c2, c3, c4, c5, c6, c7, c8, c9, c10, c11, c12⟩ := id C
  refine va_newaK c1 c2 (c5 _ hw) rfl hd rfl hx hN hb hc hsl hP.2 fun H1 cA2 e1 z1 o1 hAr hNm => ?_
  have hcc : cA2 = cA := Option.some.inj (hNm.symm.trans (hra s (c11.1.2 t0 _ ht).2))
  subst hcc
  have hA : xA w0 w.2 := Or.inr (by have h1 := hS.1; have h2 := hP.2; omega)
  exact kk p l e s m args below meth c H1 locs ls C (hP.add (by show H1[w.2]? = some (vp_cell _ _); rw [ha]; exact e1) o1 z1) (hs.add hA) ⟨Nat.le_trans hS.1 (by have := hP.2; omega), fun y h1 h2 => (o1 y (by have h3 := hS.1; have h4 := hP.2; omega)).trans (hS.2.1 y h1 h2), hS.2.2⟩ hl
theorem r_anewarray {idx t0 N : Nat} {cA : ClassId} {Cn : String} {x : Int32} (hd : decode (mC M) pc = .ok (.anewarray idx, 3)) (hw : Cond.classLink (mY M).cls idx Cn ∈ mW M) (ho : Cn ∈ xAO) (ht : (xTys E)[t0]? = some (cA, .object Cn)) (hx : ¬ x < 0) (hN : x.toNatClampNeg = N) (hb : N * 4 ≤ 536870912) (hc : k + 1 ≤ (mR M).cells) (hsl : n + N ≤ (mR M).slots) (hq : pc + 3 = q)
    (kk : WF M E Po w0 q L (.ref w.2 :: st) (xadd w (.inl (cA, N, .inr (.inr (.inr (.inr (fun _ => none))))))) (k + 1) (n + N)) : WF M E Po w0 pc L (.int x :: st) w k n := by
  subst hq; subst hN
  intro p l e s m args below meth c H locs ls C hP hs hS hl
  obtain ⟨c1, c2, c3, c4, c5, c6, c7, c8, c9, c10, c11, c12⟩ := id C
  have hAO : va_AO Cn s := c11.2.2.2.2.2.2.2.2.1.2.2.1 Cn ho
  refine W.anew c1 c2 c6 (c5 _ hw) (va_AO.use hAO) rfl hd rfl hx hb hc hsl fun cA2 kA comp f1 f2 f3 f4 => ?_
  obtain ⟨kA9, comp9, g1, g2, g3, g4⟩ := (c11.1.2 t0 _ ht).2
  have hcc : cA2 = cA := Option.some.inj (f1.symm.trans g4)
  subst hcc
  have hA : xA w0 w.2 := Or.inr (by have h1 := hS.1; have h2 := hP.2; omega)
  have hz := hP.2
  generalize hH1 : H.push ({ cls := cA2, slots := Array.replicate x.toNatClampNeg .null, vm := .none } : Cell) = H1
  have z1 : H1.size = w.2 + 1 := by rw [← hH1, Array.size_push, hz]
  have e1 : H1[w.2]? = some (arrV cA2 x.toNatClampNeg (fun _ => .null)) := by rw [← hH1, ← hz, Array.getElem?_push_size, ← arrV_new]
  have o1 : ∀ q : Nat, q < w.2 → H1[q]? = H[q]? := fun q hq => by rw [← hH1, Array.getElem?_push, if_neg (by omega)]
  have h9 := kk p l e s m args below meth c H1 locs ls C (hP.add (by show H1[w.2]? = some (vp_cell _ _); rw [vp_cell_q]; exact e1) o1 z1) (hs.add hA) ⟨Nat.le_trans hS.1 (by omega), fun y h1 h2 => (o1 y (by have h3 := hS.1; omega)).trans (hS.2.1 y h1 h2), hS.2.2⟩ hl
  rw [← hz] at h9
  exact h9
theorem r_aastore {a N t0 v ci : Nat} {cA : ClassId} {r : vw_C} {f : Nat → Option Nat} {vs : List Value} {i : Int32} (hd : decode (mC M) pc = .ok (.aastore, 1)) (ht : (xTys E)[t0]? = some (cA, .object r.1)) (hw : w.1 a = some (.inl (cA, N, .inr (.inr (.inr (.inr f)))))) (hv : w.1 v = some (.inr (ci, vs))) (hc : vwCl[ci]? = some r) (hin : vp_in i N) (hq : pc + 1 = q)
    (kk : WF M E Po w0 q L st (xset w a (.inl (cA, N, .inr (.inr (.inr (.inr (va_up f i.toNatClampNeg (some v)))))))) k n) : WF M E Po w0 pc L (.ref v :: .int i :: .ref a :: st) w k n := by
  subst hq
  intro p l e s m args below meth c H locs ls C hP hs hS hl
  obtain ⟨c1, c2, c3, c4, c5, c6, c7, c8, c9, c10, c11, c12⟩ := id C
  have hK := c11.1
  have ha := hs a (xsome hw)
  have hlt : i.toNatClampNeg < N := Nat.not_le.mp fun q => hin (Or.inr q)
  have h0 : ¬ i < 0 := fun q => hin (Or.inl q)
  obtain ⟨r', hr', cellV, g1, g2, g3, -⟩ := hP.1 v _ hv
  have hcls := (hK.1 ci r hc).2
  obtain ⟨kA, comp, k1, k2, k3, -⟩ := (hK.2 t0 _ ht).2
  have hcomp : comp = E.1.1.1 ci := Option.some.inj (k3.symm.trans hcls.1)
  subst hcomp
  obtain ⟨kC, hkC, -⟩ := hcls.2
  refine W.aast c1 c2 (hP.1 a _ hw) (fun q h => by cases h) (fun h => by cases h) k1 k2 rfl hkC ⟨h0, by show _ < (arrV _ _ _).slots.size; rw [arrV_size]; exact hlt⟩ g1 (fun q h => by rw [g3] at h; cases h) (by rw [g2]; exact hkC) (by rw [g2]; exact va_assign hcls) rfl rfl hd fun H1 e9 z oq => ?_
  refine kk p l e s m args below meth c H1 _ ls C (hP.put ?_ oq z) (hs.put ha) (hS.put z oq ha) hl
  show H1[a]? = some (vp_cell _ _)
  rw [e9, vp_cell_q, vp_cell_q, arrV_store]
  congr 2
  funext j
  by_cases hj : j = i.toNatClampNeg
  · subst hj; simp [updV, va_up, va_rf]
  · simp [updV, va_up, hj]
/-- a constructor's call -/
theorem x_callI {b : Nat} {As : List Value} (hrun : ∀ (p : Program) (l : Launch) (e : Env) (s : State) (m : MethodId) (args : Array Value) (below : List Frame) (meth : Method) (c : Code) (H : Heap) (locs : List Loc) (ls : Array Slot), xCtx M E w0 p l s m args meth c → xL ls (mL M) L → Met l (mY M2) (mW M2) (mR M2) (xPc E (.ref b :: As) w) (xQ E (xNextI M E Po w0 q L rest k2 n2) (xA w)) (mK M2) (mN M2) (xA w) → PreS s H (xPc E (.ref b :: As) w) (.ref b :: As) →
      va_Run p l e (mR M) s m args below meth c H locs k n (mK M2) (mN M2) (F0 m pc ls st) rest (xQ E (xNextI M E Po w0 q L rest k2 n2) (xA w) (Value.ref b :: As).toArray) (xA w))
    (hq : pc + 3 = q) (hk : k + mK M2 = k2) (hn2 : n + mN M2 = n2) (hct : Ct M2 E (.ref b :: As) w (xNextI M E Po w0 q L rest k2 n2)) : WF M E Po w0 pc L st w k n := by
  subst hq; subst hk; subst hn2
  intro p l e s m args below meth c H locs ls C hP hs hS hl
  obtain ⟨hA, hpre⟩ := xPc_at (as := .ref b :: As) C hP hs hS
  intro T hT X
  obtain ⟨v, st₀, t, T', L9, h0, X', hL, e1, e2, ⟨⟨v2, u, hv, hp, hb, hsub⟩, hF⟩, stp⟩ := hrun p l e s m args below meth c H locs ls C hl (hct.met (fun X u h => h) C.2.2.2.2.2.2.2.1) ⟨xPc_blind, fun U hU hW => hpre U hU hW⟩ T hT X
  cases hv
  obtain ⟨k1, k2', k3⟩ := vx_keep h0 e1 hS (fun q _ h => hA q h) hA hL hF
  obtain ⟨t2, a1, b1⟩ := hp p l e s m args below meth c T'.heap (locs ++ L9) ls C (by rw [e1]; exact hb) (fun q h => hA q (hsub q h)) k3 hl T' rfl X'
  exact ⟨t2, stp t2 a1, b1⟩
theorem r_callI {idx nn b : Nat} {As : List Value} (hd : decode (mC M) pc = .ok (.invokespecial idx, 3)) (sv : xSi M M2 idx nn) (hn : As.length = nn) (hrm : (rest.map fun v => v.category).sum ≤ 8) (hq : pc + 3 = q) (hk : k + mK M2 = k2) (hn2 : n + mN M2 = n2) (hR : k2 ≤ (mR M).cells ∧ n2 ≤ (mR M).slots) (hst : As.reverse ++ .ref b :: rest = st)
    (hct : Ct M2 E (.ref b :: As) w (xNextI M E Po w0 q L rest k2 n2)) : WF M E Po w0 pc L st w k n := by
  subst hst
  refine x_callI (fun p l e s m args below meth c H locs ls C hl hM hp => ?_) hq hk hn2 hct
  obtain ⟨c1, c2, c3, c4, c5, c6, c7⟩ := C
  exact va_runI (n := nn) (As := As) (rest := rest) ⟨c1, c2, c4, c6, c5⟩ hM (sv s args c5) hp rfl hn hl.1 rfl (lv_room hrm) hd (by rw [hk, hn2]; exact hR)
/-- a nest mate's constructor -/
def xSn (M M2 : xM) (idx nn : Nat) : Prop := ∃ host : String, ((mY M).cls, idx, mY M2, host) ∈ xNM ∧ ∀ (s : State) (args : Array Value), (∀ w ∈ mW M, w.before args s = true) → va_Nw (.methodLinkNest (mY M).cls idx (mY M2) host) s → va_CN (mR M) s args (mY M).cls idx (mY M2) host (mC M2) (mL M2) none (mW M2) (mR M2) (mK M2) (mN M2) nn ∧ (mY M2).name = "<init>" ∧ (Cond.instanceMethod (mY M2)).before args s = true
theorem r_callIN {idx nn b : Nat} {As : List Value} (hd : decode (mC M) pc = .ok (.invokespecial idx, 3)) (sv : xSn M M2 idx nn) (hn : As.length = nn) (hrm : (rest.map fun v => v.category).sum ≤ 8) (hq : pc + 3 = q) (hk : k + mK M2 = k2) (hn2 : n + mN M2 = n2) (hR : k2 ≤ (mR M).cells ∧ n2 ≤ (mR M).slots) (hst : As.reverse ++ .ref b :: rest = st)
    (hct : Ct M2 E (.ref b :: As) w (xNextI M E Po w0 q L rest k2 n2)) : WF M E Po w0 pc L st w k n := by
  subst hst
  obtain ⟨host, hm, hs9⟩ := sv
  refine x_callI (fun p l e s m args below meth c H locs ls C hl hM hp => ?_) hq hk hn2 hct
  obtain ⟨c1, c2, c3, c4, c5, c6, c7, c8, c9, c10, c11, c12⟩ := C
  exact va_runIN (n := nn) (As := As) (rest := rest) ⟨c1, c2, c4, c6, c5⟩ hM (hs9 s args c5 (c11.2.2.2.2.2.2.2.2.1.1 _ hm)) hp rfl hn hl.1 rfl (lv_room hrm) hd (by rw [hk, hn2]; exact hR)
end XMAKE
