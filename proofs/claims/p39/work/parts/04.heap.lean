/-! ===== 04.heap: fields, arrays, making, calls, ends ===== -/
def xFld (M : xM) (idx ci kf : Nat) (fin : Bool) (ty : FieldType) : Prop :=
  ∃ (C : String) (T : u_T) (N : Nat) (tyf : Nat → FieldType), vwCl[ci]? = some (C, T, N) ∧ kf < N ∧ (∀ w ∈ u_ws C T N, w ∈ mW M) ∧ Cond.fieldLink (mY M).cls idx (T kf).1 (T kf).2.1 (T kf).2.2.1 ∈ mW M ∧ (∀ j, j < N → parseFieldDescriptor (T j).2.2.1 = some (tyf j)) ∧ (∀ a, a < N → ∀ b, b < N → a ≠ b → (T a).2.1 ≠ (T b).2.1) ∧ tyf kf = ty ∧ (T kf).2.2.2 = fin ∧ (T kf).1 = C
theorem xP.one {E : xE} {w : xW} {H : Heap} {a : Nat} {e : va_E} (h : xP E w H) (hw : w.1 a = some e) : va_P E.1.1 vwCl [(a, e)] H := by
  intro k q hq
  have hz : k < 1 := (List.getElem?_eq_some_iff.mp hq).1
  rw [show k = 0 by omega] at hq
  cases hq
  exact h.1 a e hw
theorem xP.lt {E : xE} {w : xW} {H : Heap} {a : Nat} (h : xP E w H) (hw : w.1 a ≠ none) : a < H.size := by
  cases he : w.1 a with
  | none => exact absurd he hw
  | some e => exact (h.1 a e he).lt
section XHEAP
variable {M M2 : xM} {E : xE} {Po : xPo} {w0 w : xW} {pc q : Nat} {L : List (Option Value)} {st : List Value} {k n : Nat}
theorem xsome {a : Nat} {e : va_E} (hw : w.1 a = some e) : w.1 a ≠ none := by rw [hw]; exact fun h => nomatch h
theorem r_getfield {idx ci kf a : Nat} {fin : Bool} {ty : FieldType} {fs : List Value} {v : Value} (hd : decode (mC M) pc = .ok (.getfield idx, 3)) (F : xFld M idx ci kf fin ty) (hw : w.1 a = some (.inr (ci, fs))) (hv : fs[kf]? = some v) (hq : pc + 3 = q)
    (kk : WF M E Po w0 q L (v :: st) w k n) : WF M E Po w0 pc L (.ref a :: st) w k n := by
  subst hq
  intro p l e s m args below meth c H locs ls C hP hs hS hl
  obtain ⟨Cn, T, N, tyf, h1, h2, h3, h4, h5, h6, h7, h8, h9⟩ := F
  obtain ⟨c1, c2, c3, c4, c5, c6, c7, c8, c9, c10, c11, c12⟩ := id C
  exact va_get c1 c2 c5 h3 c6 c11.1 (hP.one hw) 0 rfl h1 kf h2 (c5 _ h4) (fun x hx => hx) hv hd (kk p l e s m args below meth c H locs ls C hP hs hS hl)
theorem r_putfield {idx ci kf a : Nat} {ty : FieldType} {fs : List Value} {v : Value} (hd : decode (mC M) pc = .ok (.putfield idx, 3)) (F : xFld M idx ci kf false ty) (hw : w.1 a = some (.inr (ci, fs))) (hn : narrow ty v = v) (hfit : fits ty v = true) (hlen : kf < fs.length) (hq : pc + 3 = q)
    (kk : WF M E Po w0 q L st (xset w a (.inr (ci, fs.set kf v))) k n) : WF M E Po w0 pc L (v :: .ref a :: st) w k n := by
  subst hq
  intro p l e s m args below meth c H locs ls C hP hs hS hl
  obtain ⟨Cn, T, N, tyf, hc, hk, hin, hlk, hty, hnm, hd9, hfin, h9⟩ := F
  obtain ⟨c1, c2, c3, c4, hts, hown, c7, c8, c9, c10, c11, c12⟩ := id C
  have hK := c11.1
  have hap := va_apart (own := (mY M).cls) hts hin tyf hty hnm hK hc
  obtain ⟨r, h1, cell, q1, q2, q3, q4⟩ := hP.1 a _ hw
  have hr : r = (Cn, T, N) := Option.some.inj (h1.symm.trans hc)
  subst hr
  obtain ⟨hSl, hfc, kC, hkC, hkind⟩ := hK.1 ci _ hc
  obtain ⟨cf, kf9, fi, f, hi, hsl⟩ := hSl kf hk
  have hlay := hts _ (hin _ (u_in_lay hk))
  unfold u_lay at hlay
  rw [if_neg (by rw [hfin]; decide)] at hlay
  have hst := (u_facts hfc hkC (u_lays hts hin hk) hi).1
  have h6 := u_store hfc hkC hkind hlay hi (by rw [hty kf hk, hd9]) hn hfit
  refine W.putK c1 c2 (f := f) ⟨hown, hts _ hlk, ⟨_, _, _, hi⟩, hst⟩ (by rw [q2]; exact h6) q1 q3 (by rw [hsl]; exact k2_hasslot (q4 kf hk)) rfl rfl hd fun H' e1 e2 e3 => ?_
  rw [hsl] at e1 ⊢
  have ha := hs a (xsome hw)
  exact kk p l e s m args below meth c H' _ ls C (hP.put ⟨_, hc, t_OB.to (V := updV (vp_V fs) kf v) ⟨_, e1, q2, q3, t_set q4 hap hk v⟩ (fun j _ => vp_updV_set hlen v j)⟩ e3 e2) (hs.put ha) (hS.put e2 e3 ha) hl
theorem r_putfieldF {idx ci kf a : Nat} {ty : FieldType} {fs : List Value} {v : Value} (hd : decode (mC M) pc = .ok (.putfield idx, 3)) (F : xFld M idx ci kf true ty) (hin2 : (mY M).name = "<init>") (hown2 : (vwCl[ci]?).map (fun r => r.1) = some (mY M).cls) (hw : w.1 a = some (.inr (ci, fs))) (hn : narrow ty v = v) (hfit : fits ty v = true) (hlen : kf < fs.length) (hq : pc + 3 = q)
    (kk : WF M E Po w0 q L st (xset w a (.inr (ci, fs.set kf v))) k n) : WF M E Po w0 pc L (v :: .ref a :: st) w k n := by
  subst hq
  intro p l e s m args below meth c H locs ls C hP hs hS hl
  obtain ⟨Cn, T, N, tyf, hc, hk, hin, hlk, hty, hnm, hd9, hfin, h9⟩ := F
  obtain ⟨c1, c2, c3, c4, hts, hown, c7, c8, c9, c10, c11, c12⟩ := id C
  have hdecl : (T kf).1 = (mY M).cls := by
    rw [hc] at hown2
    rw [h9]
    exact Option.some.inj hown2
  have hK := c11.1
  have hap := va_apart (own := (mY M).cls) hts hin tyf hty hnm hK hc
  obtain ⟨r, h1, cell, q1, q2, q3, q4⟩ := hP.1 a _ hw
  have hr : r = (Cn, T, N) := Option.some.inj (h1.symm.trans hc)
  subst hr
  obtain ⟨hSl, hfc, kC, hkC, hkind⟩ := hK.1 ci _ hc
  obtain ⟨cf, kf9, fi, f, hi, hsl⟩ := hSl kf hk
  have hlay := hts _ (hin _ (u_in_lay hk))
  unfold u_lay at hlay
  rw [if_pos hfin] at hlay
  have hst := (u_facts hfc hkC (u_lays hts hin hk) hi).1
  have hcf : m.cls = cf := by
    obtain ⟨_, _, c', _, _, _, -, -, hf', -, -, -, hown3, -⟩ := Cond.laysFinal_spec hlay
    have e1 : c' = cf := by have := hi.symm.trans hf'; simp at this; exact this.1.symm
    rw [hdecl] at hown3
    rw [← e1]; exact Option.some.inj (hown.symm.trans hown3)
  have h6 := u_fits hfc hkC hkind (Or.inr hlay) hi (by rw [hty kf hk, hd9]) hn hfit
  refine W.putFinK c1 c2 hown (hts _ hlk) hi hst hcf (c10.trans hin2) (by rw [q2]; exact h6) q1 q3 (by rw [hsl]; exact k2_hasslot (q4 kf hk)) rfl rfl hd fun H' e1 e2 e3 => ?_
  rw [hsl] at e1 ⊢
  have ha := hs a (xsome hw)
  exact kk p l e s m args below meth c H' _ ls C (hP.put ⟨_, hc, t_OB.to (V := updV (vp_V fs) kf v) ⟨_, e1, q2, q3, t_set q4 hap hk v⟩ (fun j _ => vp_updV_set hlen v j)⟩ e3 e2) (hs.put ha) (hS.put e2 e3 ha) hl
-- arrays: reading
theorem r_alen {a t0 : Nat} {cA : ClassId} {x : vp_A} {ty : FieldType} (hd : decode (mC M) pc = .ok (.arraylength, 1)) (ht : (xTys E)[t0]? = some (cA, ty)) (hw : w.1 a = some (.inl (cA, x))) (hq : pc + 1 = q) (kk : WF M E Po w0 q L (.int (Int32.ofNat x.1) :: st) w k n) : WF M E Po w0 pc L (.ref a :: st) w k n := by
  subst hq
  intro p l e s m args below meth c H locs ls C hP hs hS hl
  exact va_alen C.1 C.2.1 C.2.2.2.2.2.2.2.2.2.2.1.1 (hP.one hw) 0 t0 rfl ht rfl hd (kk p l e s m args below meth c H locs ls C hP hs hS hl)
theorem r_iaload {a N : Nat} {f : Nat → Int32} {i : Int32} (hd : decode (mC M) pc = .ok (.iaload, 1)) (hw : w.1 a = some (.inl (E.1.2 0, N, .inl f))) (hin : vp_in i N) (hq : pc + 1 = q) (kk : WF M E Po w0 q L (.int (f i.toNatClampNeg) :: st) w k n) : WF M E Po w0 pc L (.int i :: .ref a :: st) w k n := by
  subst hq
  intro p l e s m args below meth c H locs ls C hP hs hS hl
  exact va_iald C.1 C.2.1 C.2.2.2.2.2.2.2.2.2.2.1.1 (hP.one hw) 0 0 rfl rfl hin hd (kk p l e s m args below meth c H locs ls C hP hs hS hl)
theorem r_caload {a N : Nat} {f : Nat → Int32} {i : Int32} (hd : decode (mC M) pc = .ok (.caload, 1)) (hw : w.1 a = some (.inl (E.1.2 1, N, .inl f))) (hin : vp_in i N) (hq : pc + 1 = q) (kk : WF M E Po w0 q L (.int (f i.toNatClampNeg) :: st) w k n) : WF M E Po w0 pc L (.int i :: .ref a :: st) w k n := by
  subst hq
  intro p l e s m args below meth c H locs ls C hP hs hS hl
  exact va_cald C.1 C.2.1 C.2.2.2.2.2.2.2.2.2.2.1.1 (hP.one hw) 0 1 rfl rfl hin hd (kk p l e s m args below meth c H locs ls C hP hs hS hl)
theorem r_laload {a N : Nat} {f : Nat → Int64} {i : Int32} (hd : decode (mC M) pc = .ok (.laload, 1)) (hw : w.1 a = some (.inl (E.1.2 8, N, .inr (.inl f)))) (hin : vp_in i N) (hq : pc + 1 = q) (kk : WF M E Po w0 q L (.long (f i.toNatClampNeg) :: st) w k n) : WF M E Po w0 pc L (.int i :: .ref a :: st) w k n := by
  subst hq
  intro p l e s m args below meth c H locs ls C hP hs hS hl
  exact va_lald C.1 C.2.1 C.2.2.2.2.2.2.2.2.2.2.1.1 (hP.one hw) 0 8 rfl rfl hin hd (kk p l e s m args below meth c H locs ls C hP hs hS hl)
theorem r_aaload {a N t0 : Nat} {cA : ClassId} {Cn : String} {f : Nat → Option Nat} {i : Int32} (hd : decode (mC M) pc = .ok (.aaload, 1)) (ht : (xTys E)[t0]? = some (cA, .object Cn)) (hw : w.1 a = some (.inl (cA, N, .inr (.inr (.inr (.inr f)))))) (hin : vp_in i N) (hq : pc + 1 = q) (kk : WF M E Po w0 q L (va_rf (f i.toNatClampNeg) :: st) w k n) : WF M E Po w0 pc L (.int i :: .ref a :: st) w k n := by
  subst hq
  intro p l e s m args below meth c H locs ls C hP hs hS hl
  exact va_aldq C.1 C.2.1 C.2.2.2.2.2.2.2.2.2.2.1.1 (hP.one hw) 0 t0 rfl ht hin hd (kk p l e s m args below meth c H locs ls C hP hs hS hl)
-- arrays: writing
theorem r_iastore {a N : Nat} {f : Nat → Int32} {i x : Int32} (hd : decode (mC M) pc = .ok (.iastore, 1)) (hw : w.1 a = some (.inl (E.1.2 0, N, .inl f))) (hin : vp_in i N) (hq : pc + 1 = q)
    (kk : WF M E Po w0 q L st (xset w a (.inl (E.1.2 0, N, .inl (upd f i.toNatClampNeg x)))) k n) : WF M E Po w0 pc L (.int x :: .int i :: .ref a :: st) w k n := by
  subst hq
  intro p l e s m args below meth c H locs ls C hP hs hS hl
  have hK := C.2.2.2.2.2.2.2.2.2.2.1.1
  have ha := hs a (xsome hw)
  refine W.iast C.1 C.2.1 (hP.1 a _ hw) ((hK.2 0 (E.1.2 0, .int) rfl).1 N (fun j => .int (f j))) (fun z => by cases z) (by show ¬ (i < 0 ∨ (arrV _ _ _).slots.size ≤ _); rw [arrV_size]; exact hin) rfl rfl hd fun H1 e9 z oq => ?_
  refine kk p l e s m args below meth c H1 _ ls C (hP.put ?_ oq z) (hs.put ha) (hS.put z oq ha) hl
  show H1[a]? = some (vp_cell _ _)
  rw [e9, vp_cell_i, vp_cell_i, arrV_store]
  congr 2
  funext j
  by_cases hj : j = i.toNatClampNeg
  · subst hj; simp [updV, upd]
  · simp [updV, upd, hj]
theorem r_castore {a N : Nat} {f : Nat → Int32} {i x : Int32} (hd : decode (mC M) pc = .ok (.castore, 1)) (hw : w.1 a = some (.inl (E.1.2 1, N, .inl f))) (hin : vp_in i N) (hq : pc + 1 = q)
    (kk : WF M E Po w0 q L st (xset w a (.inl (E.1.2 1, N, .inl (upd f i.toNatClampNeg (vp_nar .char x))))) k n) : WF M E Po w0 pc L (.int x :: .int i :: .ref a :: st) w k n := by
  subst hq
  intro p l e s m args below meth c H locs ls C hP hs hS hl
  have hK := C.2.2.2.2.2.2.2.2.2.2.1.1
  have ha := hs a (xsome hw)
  refine W.cast C.1 C.2.1 (hP.1 a _ hw) ((hK.2 1 (E.1.2 1, .char) rfl).1 N (fun j => .int (f j))) (fun z => by cases z) (by show ¬ (i < 0 ∨ (arrV _ _ _).slots.size ≤ _); rw [arrV_size]; exact hin) rfl rfl hd fun H1 e9 z oq => ?_
  refine kk p l e s m args below meth c H1 _ ls C (hP.put ?_ oq z) (hs.put ha) (hS.put z oq ha) hl
  show H1[a]? = some (vp_cell _ _)
  rw [e9, vp_cell_i, vp_cell_i, arrV_store]
  congr 2
  funext j
  by_cases hj : j = i.toNatClampNeg
  · subst hj
    simp [updV, upd, vp_nar, narrow]
  · simp [updV, upd, hj]
theorem r_lastore {a N : Nat} {f : Nat → Int64} {i : Int32} {x : Int64} (hd : decode (mC M) pc = .ok (.lastore, 1)) (hw : w.1 a = some (.inl (E.1.2 8, N, .inr (.inl f)))) (hin : vp_in i N) (hq : pc + 1 = q)
    (kk : WF M E Po w0 q L st (xset w a (.inl (E.1.2 8, N, .inr (.inl (vp_updL f i.toNatClampNeg x))))) k n) : WF M E Po w0 pc L (.long x :: .int i :: .ref a :: st) w k n := by
  subst hq
  intro p l e s m args below meth c H locs ls C hP hs hS hl
  have hK := C.2.2.2.2.2.2.2.2.2.2.1.1
  have ha := hs a (xsome hw)
  refine W.last C.1 C.2.1 (hP.1 a _ hw) ((hK.2 8 (E.1.2 8, .long) rfl).1 N (fun j => .long (f j))) (fun z => by cases z) (by show ¬ (i < 0 ∨ (arrV _ _ _).slots.size ≤ _); rw [arrV_size]; exact hin) rfl rfl hd fun H1 e9 z oq => ?_
  refine kk p l e s m args below meth c H1 _ ls C (hP.put ?_ oq z) (hs.put ha) (hS.put z oq ha) hl
  show H1[a]? = some (vp_cell _ _)
  rw [e9, vp_cell_l, vp_cell_l, arrV_store]
  congr 2
  funext j
  by_cases hj : j = i.toNatClampNeg
  · subst hj; simp [updV, vp_updL]
  · simp [updV, vp_updL, hj]
theorem xEnd {v : Option Value} {s t : State} {H : Heap} {locs : List Loc} {args : Array Value} (hpo : Po (.inl v) w) (hP : xP E w H) (hs : xSub w (xA w0)) (hS : va_S (xA w0) s.heap H locs) (ht : t.heap = H) : xQ E Po (xA w0) args s (.returned v) t :=
  ⟨⟨v, w, rfl, hpo, by rw [ht]; exact hP, hs⟩, hS.F ht⟩
theorem r_iret {v : Int32} (hd : decode (mC M) pc = .ok (.ireturn, 1)) (hT : mT M = some .int) (hk : k ≤ mK M) (hn : n ≤ mN M) (hpo : Po (.inl (some (.int v))) w) : WF M E Po w0 pc L [.int v] w k n := by
  intro p l e s m args below meth c H locs ls C hP hs hS hl
  obtain ⟨c1, c2, c3, c4, c5, c6, c7, c8, c9, c10, c11, c12⟩ := C
  exact W.widen hk hn (vx_ret (W.iret c1 c2 (c3.trans hT) (fun t ht hW => xEnd hpo hP hs hS ht) hS.2.2 hd c7))
theorem r_zret {v : Int32} {ty : FieldType} (hd : decode (mC M) pc = .ok (.ireturn, 1)) (hT : mT M = some ty) (hnar : narrow ty (.int v) = .int v) (hk : k ≤ mK M) (hn : n ≤ mN M) (hpo : Po (.inl (some (.int v))) w) : WF M E Po w0 pc L [.int v] w k n := by
  intro p l e s m args below meth c H locs ls C hP hs hS hl
  obtain ⟨c1, c2, c3, c4, c5, c6, c7, c8, c9, c10, c11, c12⟩ := C
  exact W.widen hk hn (vx_ret (W.zret c1 c2 (c3.trans hT) hnar (fun t ht hW => xEnd hpo hP hs hS ht) hS.2.2 hd c7))
theorem r_vret (hd : decode (mC M) pc = .ok (.return_, 1)) (hT : mT M = none) (hk : k ≤ mK M) (hn : n ≤ mN M) (hpo : Po (.inl none) w) : WF M E Po w0 pc L [] w k n := by
  intro p l e s m args below meth c H locs ls C hP hs hS hl
  obtain ⟨c1, c2, c3, c4, c5, c6, c7, c8, c9, c10, c11, c12⟩ := C
  exact W.widen hk hn (vx_ret (W.vret c1 c2 (c3.trans hT) (fun t ht hW => xEnd hpo hP hs hS ht) hS.2.2 hd c7))
theorem r_aret {v : Value} {Cn : String} (hd : decode (mC M) pc = .ok (.areturn, 1)) (hT : mT M = some (.object Cn)) (hv : v = .null ∨ ∃ a, v = .ref a) (hk : k ≤ mK M) (hn : n ≤ mN M) (hpo : Po (.inl (some v)) w) : WF M E Po w0 pc L [v] w k n := by
  intro p l e s m args below meth c H locs ls C hP hs hS hl
  obtain ⟨c1, c2, c3, c4, c5, c6, c7, c8, c9, c10, c11, c12⟩ := C
  exact W.widen hk hn (vx_ret (W.aret c1 c2 (c3.trans hT) (Or.inl ⟨_, rfl⟩) hv (fun t ht hW => xEnd hpo hP hs hS ht) hS.2.2 hd c7))
theorem r_dret {v : UInt64} (hd : decode (mC M) pc = .ok (.dreturn, 1)) (hT : mT M = some .double) (hk : k ≤ mK M) (hn : n ≤ mN M) (hpo : Po (.inl (some (.double v))) w) : WF M E Po w0 pc L [.double v] w k n := by
  intro p l e s m args below meth c H locs ls C hP hs hS hl
  obtain ⟨c1, c2, c3, c4, c5, c6, c7, c8, c9, c10, c11, c12⟩ := C
  exact W.widen hk hn (vx_ret (W.dret c1 c2 (c3.trans hT) (fun t ht hW => xEnd hpo hP hs hS ht) hS.2.2 hd c7))
theorem r_fret {v : UInt32} (hd : decode (mC M) pc = .ok (.freturn, 1)) (hT : mT M = some .float) (hk : k ≤ mK M) (hn : n ≤ mN M) (hpo : Po (.inl (some (.float v))) w) : WF M E Po w0 pc L [.float v] w k n := by
  intro p l e s m args below meth c H locs ls C hP hs hS hl
  obtain ⟨c1, c2, c3, c4, c5, c6, c7, c8, c9, c10, c11, c12⟩ := C
  exact W.widen hk hn (vx_ret (W.fret c1 c2 (c3.trans hT) (fun t ht hW => xEnd hpo hP hs hS ht) hS.2.2 hd c7))
end XHEAP
