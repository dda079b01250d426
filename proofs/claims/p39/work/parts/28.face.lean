/-! ===== 28.face: the hire as a whole, calls that change it (rows laid by wip/p39/gen/make28.py) ===== -/
abbrev xHi : Type := (Nat → xCo) × (Nat × Int32) × ((Nat → Int32) × Nat × (Nat → Int32)) × (Int32 × Int32) × (Nat × Nat × Int32 × Int32 × (Nat → Int32))
def hirE (x : Nat) (sv kf : Int32) : va_E := .inr (11, [.ref (x + 1), .ref (x + 28), .ref (x + 55), .ref (x + 82), .ref (x + 327), .ref (x + 329), .int sv, .int kf])
/-- the builder: where its bytes are, how many there is room for, its count, a flag, the bytes -/
def sbdE (va : Nat) (ml ct : Int32) : va_E := .inr (1, [.ref va, .int 0, .int ml, .int ct])
/-- THE HIRE at x -/
def HI (E : xE) (w : xW) (x : Nat) (h : xHi) : Prop :=
  (w.1 x = some (hirE x h.2.2.2.1.1 h.2.2.2.1.2) ∧ w.1 (x + 82) = some (pasE (x + 82 + 1) (nI h.2.1.1) h.2.1.2) ∧ w.1 (x + 82 + 1) = some (refE (E.1.2 5) 9 (x + 82 + 2) 27) ∧ h.2.1.1 < 9) ∧
  (hasS E w (x + 1) (h.1 0) ∧ hasS E w (x + 28) (h.1 1) ∧ hasS E w (x + 55) (h.1 2) ∧ ∀ i, i < 9 → hasS E w (x + 82 + 2 + 27 * i) (h.1 (3 + i))) ∧
  (w.1 (x + 327) = some (txtE E (x + 327) h.2.2.1.1 h.2.2.1.2.1) ∧ w.1 (x + 327 + 1) = some (sgnE E h.2.2.1.2.2) ∧ h.2.2.1.2.1 < 9) ∧
  (w.1 (x + 329) = some (sbdE h.2.2.2.2.1 h.2.2.2.2.2.2.1 h.2.2.2.2.2.2.2.1) ∧ w.1 h.2.2.2.2.1 = some (.inl (E.1.2 7, h.2.2.2.2.2.1, .inl h.2.2.2.2.2.2.2.2)) ∧ x + 330 ≤ h.2.2.2.2.1 ∧ h.2.2.2.2.1 < w.2 ∧ x + 330 ≤ w.2)
/-- the hire's cells -/
def HF (x : Nat) (h : xHi) (q : Nat) : Prop := (x ≤ q ∧ q < x + 330) ∨ q = h.2.2.2.2.1
/-- a world that differs in the hire's cells alone, or in new ones -/
def Fr (w u : xW) (x : Nat) (h : xHi) : Prop := w.2 ≤ u.2 ∧ ∀ q, ¬ HF x h q → q < w.2 → u.1 q = w.1 q
theorem Fr.id {w : xW} {x : Nat} {h : xHi} : Fr w w x h := ⟨Nat.le_refl _, fun _ _ _ => rfl⟩
def upS (h : xHi) (i : Nat) (c : xCo) : xHi := (fun j => if j = i then c else h.1 j, h.2)
theorem Fr.sto {E : xE} {w u : xW} {x b : Nat} {h : xHi} {c : xCo} (f : Fr w u x h) (h1 : x ≤ b) (h2 : b + 27 ≤ x + 330) : Fr w (sto E u b c) x h :=
  ⟨f.1, fun q hq hl => (sto_out (by by_cases z : q < b ∨ b + 27 ≤ q
                                    · exact z
                                    · exact absurd (Or.inl (by omega)) hq)).trans (f.2 q hq hl)⟩
theorem Fr.set {w u : xW} {x a : Nat} {h : xHi} {e : va_E} (f : Fr w u x h) (h1 : x ≤ a) (h2 : a < x + 330) : Fr w (xset u a e) x h :=
  ⟨f.1, fun q hq hl => (xset_o (fun z => hq (Or.inl (by omega)))).trans (f.2 q hq hl)⟩
theorem Fr.sz {w u : xW} {x z : Nat} {h : xHi} (f : Fr w u x h) (hz : u.2 ≤ z) : Fr w (u.1, z) x h := ⟨Nat.le_trans f.1 hz, f.2⟩
theorem HI.sz {E : xE} {w : xW} {x z : Nat} {h : xHi} (H : HI E w x h) (hz : w.2 ≤ z) : HI E (w.1, z) x h := by
  obtain ⟨a, ⟨b1, b2, b3, b4⟩, c, d1, d2, d3, d4, d5⟩ := H
  exact ⟨a, ⟨fun o ho => b1 o ho, fun o ho => b2 o ho, fun o ho => b3 o ho, fun i hi o ho => b4 i hi o ho⟩, c, d1, d2, d3, Nat.lt_of_lt_of_le d4 hz, Nat.le_trans d5 hz⟩
theorem hasS.o {E : xE} {w : xW} {a b : Nat} {c d : xCo} (h : hasS E w a d) (hab : a + 27 ≤ b ∨ b + 27 ≤ a) : hasS E (sto E w b c) a d := hasS_sto h hab
theorem HI.st0 {E : xE} {w : xW} {x : Nat} {h : xHi} {c : xCo} (H : HI E w x h) : HI E (sto E w (x + 1) c) x (upS h 0 c) := by
  obtain ⟨⟨a1, a2, a3, a4⟩, ⟨b1, b2, b3, b4⟩, ⟨c1, c2, c3⟩, d1, d2, d3, d4, d5⟩ := H
  exact ⟨⟨(sto_out (by omega)).trans a1, (sto_out (by omega)).trans a2, (sto_out (by omega)).trans a3, a4⟩, ⟨hasS_self, b2.o (by omega), b3.o (by omega), fun i hi => by
    show hasS _ _ _ (if 3 + i = 0 then c else h.1 (3 + i))
    rw [if_neg (by omega)]; exact (b4 i hi).o (by omega)⟩, ⟨(sto_out (by omega)).trans c1, (sto_out (by omega)).trans c2, c3⟩, (sto_out (by omega)).trans d1, (show (sto E w (x + 1) c).1 h.2.2.2.2.1 = w.1 h.2.2.2.2.1 from sto_out (by omega)).trans d2, d3, d4, d5⟩
theorem HI.st1 {E : xE} {w : xW} {x : Nat} {h : xHi} {c : xCo} (H : HI E w x h) : HI E (sto E w (x + 28) c) x (upS h 1 c) := by
  obtain ⟨⟨a1, a2, a3, a4⟩, ⟨b1, b2, b3, b4⟩, ⟨c1, c2, c3⟩, d1, d2, d3, d4, d5⟩ := H
  exact ⟨⟨(sto_out (by omega)).trans a1, (sto_out (by omega)).trans a2, (sto_out (by omega)).trans a3, a4⟩, ⟨b1.o (by omega), hasS_self, b3.o (by omega), fun i hi => by
    show hasS _ _ _ (if 3 + i = 1 then c else h.1 (3 + i))
    rw [if_neg (by omega)]; exact (b4 i hi).o (by omega)⟩, ⟨(sto_out (by omega)).trans c1, (sto_out (by omega)).trans c2, c3⟩, (sto_out (by omega)).trans d1, (show (sto E w (x + 28) c).1 h.2.2.2.2.1 = w.1 h.2.2.2.2.1 from sto_out (by omega)).trans d2, d3, d4, d5⟩
theorem HI.st2 {E : xE} {w : xW} {x : Nat} {h : xHi} {c : xCo} (H : HI E w x h) : HI E (sto E w (x + 55) c) x (upS h 2 c) := by
  obtain ⟨⟨a1, a2, a3, a4⟩, ⟨b1, b2, b3, b4⟩, ⟨c1, c2, c3⟩, d1, d2, d3, d4, d5⟩ := H
  exact ⟨⟨(sto_out (by omega)).trans a1, (sto_out (by omega)).trans a2, (sto_out (by omega)).trans a3, a4⟩, ⟨b1.o (by omega), b2.o (by omega), hasS_self, fun i hi => by
    show hasS _ _ _ (if 3 + i = 2 then c else h.1 (3 + i))
    rw [if_neg (by omega)]; exact (b4 i hi).o (by omega)⟩, ⟨(sto_out (by omega)).trans c1, (sto_out (by omega)).trans c2, c3⟩, (sto_out (by omega)).trans d1, (show (sto E w (x + 55) c).1 h.2.2.2.2.1 = w.1 h.2.2.2.2.1 from sto_out (by omega)).trans d2, d3, d4, d5⟩
theorem HI.str {E : xE} {w : xW} {x i : Nat} {h : xHi} {c : xCo} (H : HI E w x h) (hi : i < 9) : HI E (sto E w (x + 82 + 2 + 27 * i) c) x (upS h (3 + i) c) := by
  obtain ⟨⟨a1, a2, a3, a4⟩, ⟨b1, b2, b3, b4⟩, ⟨c1, c2, c3⟩, d1, d2, d3, d4, d5⟩ := H
  refine ⟨⟨(sto_out (by omega)).trans a1, (sto_out (by omega)).trans a2, (sto_out (by omega)).trans a3, a4⟩, ⟨?_, ?_, ?_, fun j hj => ?_⟩, ⟨(sto_out (by omega)).trans c1, (sto_out (by omega)).trans c2, c3⟩, (sto_out (by omega)).trans d1, (show (sto E w (x + 82 + 2 + 27 * i) c).1 h.2.2.2.2.1 = w.1 h.2.2.2.2.1 from sto_out (by omega)).trans d2, d3, d4, d5⟩
  · show hasS _ _ _ (if 0 = 3 + i then c else h.1 0)
    rw [if_neg (by omega)]; exact b1.o (by omega)
  · show hasS _ _ _ (if 1 = 3 + i then c else h.1 1)
    rw [if_neg (by omega)]; exact b2.o (by omega)
  · show hasS _ _ _ (if 2 = 3 + i then c else h.1 2)
    rw [if_neg (by omega)]; exact b3.o (by omega)
  · show hasS _ _ _ (if 3 + j = 3 + i then c else h.1 (3 + j))
    by_cases e : j = i
    · subst e; rw [if_pos rfl]; exact hasS_self
    · rw [if_neg (by omega)]; exact (b4 j hj).o (by omega)
theorem HI.pas {E : xE} {w : xW} {x i : Nat} {ct : Int32} {h : xHi} (H : HI E w x h) (hi : i < 9) : HI E (xset w (x + 82) (pasE (x + 82 + 1) (nI i) ct)) x (h.1, (i, ct), h.2.2) := by
  obtain ⟨⟨a1, a2, a3, a4⟩, ⟨b1, b2, b3, b4⟩, ⟨c1, c2, c3⟩, d1, d2, d3, d4, d5⟩ := H
  exact ⟨⟨(xset_o (by omega)).trans a1, xset_s, (xset_o (by omega)).trans a3, hi⟩, ⟨b1.set (by omega), b2.set (by omega), b3.set (by omega), fun j hj => (b4 j hj).set (by omega)⟩, ⟨(xset_o (by omega)).trans c1, (xset_o (by omega)).trans c2, c3⟩, (xset_o (by omega)).trans d1, (show (xset w (x + 82) _).1 h.2.2.2.2.1 = w.1 h.2.2.2.2.1 from xset_o (by omega)).trans d2, d3, d4, d5⟩
theorem HI.P {E : xE} {w : xW} {x : Nat} {h : xHi} (H : HI E w x h) : hasP E w (x + 82) h.2.1.1 h.2.1.2 := ⟨H.1.2.1, H.1.2.2.1⟩
/-- a change noted -/
def hN (h : xHi) : xHi := upS h (3 + h.2.1.1) (cpS (h.1 (3 + h.2.1.1)) (h.1 0))
/-- a change kept -/
def hK (h : xHi) : xHi := (h.1, ((h.2.1.1 + 1) % 9, if h.2.1.2 + 1 < 8 then h.2.1.2 + 1 else 8), h.2.2)
/-- what comes of an outcome -/
def hS (Po : xPo) (w : xW) (E : xE) (x : Nat) (h0 h : xHi) (r : Int32) : Prop :=
  if r = -2 then ∀ u, HI E u x h → Fr w u x h0 → Po (.inr "java/lang/IndexOutOfBoundsException") u
  else if r = -3 then ∀ u, HI E u x h → Fr w u x h0 → Po (.inr "java/lang/IllegalArgumentException") u
  else if r = -1 then ∀ u, HI E u x h → Fr w u x h0 → Po (.inr "java/lang/UnsupportedOperationException") u
  else ∀ u, HI E u x (hK h) → Fr w u x h0 → Po (.inl (some (.int r))) u
set_option maxRecDepth 100000 in
set_option maxHeartbeats 4000000 in
theorem ct_X9_settled {E : xE} {Po : xPo} {w : xW} {w1 : xW} {x : Nat} {h0 h : xHi} {r : Int32} (H : HI E w x h) (f : Fr w1 w x h0) (hp : hS Po w1 E x h0 h r) : Ct M_X9_settled E [.ref x, .int r] w Po := by
  refine Ct.of (ws2 := xAll) (L := [some (.ref x), some (.int r)]) (by decide +kernel) rfl rfl (List.forall_mem_cons.mpr ⟨rfl, List.forall_mem_cons.mpr ⟨rfl, fun _ h => absurd h List.not_mem_nil⟩⟩) (Nat.le_of_ble_eq_true rfl) rfl ?_
  unfold hS at hp
  refine r_iload_n (q := 1) dX9_settled_0 rfl rfl rfl ?_
  refine r_bipush (q := 3) (v := (-2)) dX9_settled_1 (by decide) rfl ?_
  refine r_icmp_ne (q := 16) (q2 := 6) dX9_settled_3 (by decide) rfl (fun h3 => ?_) (fun h3 => ?_)
  · rw [if_neg h3] at hp
    refine r_iload_n (q := 17) dX9_settled_16 rfl rfl rfl ?_
    refine r_bipush (q := 19) (v := (-3)) dX9_settled_17 (by decide) rfl ?_
    refine r_icmp_ne (q := 33) (q2 := 22) dX9_settled_19 (by decide) rfl (fun h19 => ?_) (fun h19 => ?_)
    · rw [if_neg h19] at hp
      refine r_iload_n (q := 34) dX9_settled_33 rfl rfl rfl ?_
      refine r_iconst (q := 35) (v := (-1)) dX9_settled_34 rfl rfl ?_
      refine r_icmp_ne (q := 49) (q2 := 38) dX9_settled_35 (by decide) rfl (fun h35 => ?_) (fun h35 => ?_)
      · rw [if_neg h35] at hp
        refine r_aload_n (q := 50) dX9_settled_49 rfl rfl rfl ?_
        refine r_getfield (q := 53) dX9_settled_50 f_X9_settled_25 H.1.1 rfl rfl ?_
        refine r_callV (q := 56) (ci := 5) (As := []) dX9_settled_53 s_X9_settled_291 H.1.2.1 rfl rfl rfl (Nat.le_of_ble_eq_true rfl) rfl rfl rfl (Nat.le_of_ble_eq_true rfl) (Nat.le_of_ble_eq_true rfl) ⟨(Nat.le_of_ble_eq_true rfl), (Nat.le_of_ble_eq_true rfl)⟩ rfl ?_
        refine ct_X3_keep H.1.2.2.2 H.P ?_
        show WF _ E Po _ _ _ _ _ _ _
        refine r_iload_n (q := 57) dX9_settled_56 rfl rfl rfl ?_
        refine r_iret dX9_settled_57 rfl (Nat.le_of_ble_eq_true rfl) (Nat.le_of_ble_eq_true rfl) ?_
        exact hp _ (H.pas (Nat.mod_lt _ (by decide))) (f.set (by omega) (by omega))
      · rw [if_pos h35] at hp
        exact r_throwSW (i := 2) (by decide +kernel) th_nm (by decide) (fun _ h => List.mem_cons_of_mem _ h) th_UO tk_UO ti_UO rfl dX9_settled_38 dX9_settled_41 dX9_settled_42 dX9_settled_45 dX9_settled_48 rfl (Nat.le_of_ble_eq_true rfl) (Nat.le_of_ble_eq_true rfl) (Nat.le_of_ble_eq_true rfl) (Nat.le_of_ble_eq_true rfl) (Nat.le_of_ble_eq_true rfl) (Nat.le_of_ble_eq_true rfl) (fun z hz => hp _ (H.sz hz) (f.sz hz))
    · rw [if_pos h19] at hp
      exact r_throwSW (i := 1) (by decide +kernel) th_nm (by decide) (fun _ h => List.mem_cons_of_mem _ h) th_IA tk_IA ti_IA rfl dX9_settled_22 dX9_settled_25 dX9_settled_26 dX9_settled_29 dX9_settled_32 rfl (Nat.le_of_ble_eq_true rfl) (Nat.le_of_ble_eq_true rfl) (Nat.le_of_ble_eq_true rfl) (Nat.le_of_ble_eq_true rfl) (Nat.le_of_ble_eq_true rfl) (Nat.le_of_ble_eq_true rfl) (fun z hz => hp _ (H.sz hz) (f.sz hz))
  · rw [if_pos h3] at hp
    exact r_throwS (i := 0) (by decide +kernel) th_nm (by decide) (fun _ h => List.mem_cons_of_mem _ h) th_IO tk_IO ti_IO rfl dX9_settled_6 dX9_settled_9 dX9_settled_10 dX9_settled_12 dX9_settled_15 rfl (Nat.le_of_ble_eq_true rfl) (Nat.le_of_ble_eq_true rfl) (Nat.le_of_ble_eq_true rfl) (Nat.le_of_ble_eq_true rfl) (Nat.le_of_ble_eq_true rfl) (Nat.le_of_ble_eq_true rfl) (fun z hz => hp _ (H.sz hz) (f.sz hz))
set_option maxRecDepth 100000 in
set_option maxHeartbeats 4000000 in
theorem ct_X9_tub {E : xE} {Po : xPo} {w : xW} {x : Nat} {h : xHi} {z : Int32} (H : HI E w x h) (hp : hS Po w E x h (upS (hN h) 0 (addTubS (h.1 0) z).2) (addTubS (h.1 0) z).1) : Ct M_X9_tub E [.ref x, .int z] w Po := by
  refine Ct.of (ws2 := xAll) (L := [some (.ref x), some (.int z)]) (by decide +kernel) rfl rfl (List.forall_mem_cons.mpr ⟨rfl, List.forall_mem_cons.mpr ⟨rfl, fun _ h => absurd h List.not_mem_nil⟩⟩) (Nat.le_of_ble_eq_true rfl) rfl ?_
  refine r_aload_n (q := 1) dX9_tub_0 rfl rfl rfl ?_
  refine r_getfield (q := 4) dX9_tub_1 f_X9_tub_25 H.1.1 rfl rfl ?_
  refine r_aload_n (q := 5) dX9_tub_4 rfl rfl rfl ?_
  refine r_getfield (q := 8) dX9_tub_5 f_X9_tub_10 H.1.1 rfl rfl ?_
  refine r_callV (q := 11) (ci := 5) (As := [_]) dX9_tub_8 s_X9_tub_51 H.1.2.1 rfl rfl rfl (Nat.le_of_ble_eq_true rfl) rfl rfl rfl (Nat.le_of_ble_eq_true rfl) (Nat.le_of_ble_eq_true rfl) ⟨(Nat.le_of_ble_eq_true rfl), (Nat.le_of_ble_eq_true rfl)⟩ rfl ?_
  refine ct_X3_note H.1.2.2.2 H.P (H.2.1.2.2.2 _ H.1.2.2.2) H.2.1.1 (by omega) ?_
  show WF _ E Po _ _ _ _ _ _ _
  have H1 := H.str (c := cpS (h.1 (3 + h.2.1.1)) (h.1 0)) H.1.2.2.2
  have f1 := (Fr.id (w := w) (x := x) (h := h)).sto (E := E) (c := cpS (h.1 (3 + h.2.1.1)) (h.1 0)) (b := x + 82 + 2 + 27 * h.2.1.1) (by omega) (by have := H.1.2.2.2; omega)
  have S0 : hasS E (sto E w (x + 82 + 2 + 27 * h.2.1.1) (cpS (h.1 (3 + h.2.1.1)) (h.1 0))) (x + 1) (h.1 0) := H.2.1.1.o (by omega)
  refine r_aload_n (q := 12) dX9_tub_11 rfl rfl rfl ?_
  refine r_aload_n (q := 13) dX9_tub_12 rfl rfl rfl ?_
  refine r_getfield (q := 16) dX9_tub_13 f_X9_tub_10 H1.1.1 rfl rfl ?_
  refine r_iload_n (q := 17) dX9_tub_16 rfl rfl rfl ?_
  refine r_callV (q := 20) (ci := 7) (As := [_]) dX9_tub_17 s_X9_tub_55 (S0 0 (by decide)) rfl rfl rfl (Nat.le_of_ble_eq_true rfl) rfl rfl rfl (Nat.le_of_ble_eq_true rfl) (Nat.le_of_ble_eq_true rfl) ⟨(Nat.le_of_ble_eq_true rfl), (Nat.le_of_ble_eq_true rfl)⟩ rfl ?_
  refine Ct.cw S0.eq.symm (ct_X5_addTub ?_)
  show WF _ E Po _ _ _ _ _ _ _
  have H2 := H1.st0 (c := (addTubS (h.1 0) z).2)
  have f2 := f1.sto (E := E) (c := (addTubS (h.1 0) z).2) (b := x + 1) (by omega) (by omega)
  refine r_callV (q := 23) (ci := 11) (As := [_]) dX9_tub_20 s_X9_tub_59 H2.1.1 rfl rfl rfl (Nat.le_of_ble_eq_true rfl) rfl rfl rfl (Nat.le_of_ble_eq_true rfl) (Nat.le_of_ble_eq_true rfl) ⟨(Nat.le_of_ble_eq_true rfl), (Nat.le_of_ble_eq_true rfl)⟩ rfl ?_
  refine (ct_X9_settled (Po := xNext _ E Po _ _ _ _ _ _) H2 f2 ?_)
  unfold hS at hp ⊢
  split at hp
  · rename_i e; rw [if_pos e]; exact hp
  · rename_i e; rw [if_neg e]
    split at hp
    · rename_i e; rw [if_pos e]; exact hp
    · rename_i e; rw [if_neg e]
      split at hp
      · rename_i e; rw [if_pos e]; exact hp
      · rename_i e; rw [if_neg e]
        intro u Hu fu
        show WF _ E Po _ _ _ _ _ _ _
        exact r_iret dX9_tub_23 rfl (Nat.le_of_ble_eq_true rfl) (Nat.le_of_ble_eq_true rfl) (hp u Hu fu)
set_option maxRecDepth 100000 in
set_option maxHeartbeats 4000000 in
theorem ct_X9_tear {E : xE} {Po : xPo} {w : xW} {x : Nat} {h : xHi} {t s : Int32} (H : HI E w x h) (hp : hS Po w E x h (upS (hN h) 0 (tearS (h.1 0) t s).2) (tearS (h.1 0) t s).1) : Ct M_X9_tear E [.ref x, .int t, .int s] w Po := by
  refine Ct.of (ws2 := xAll) (L := [some (.ref x), some (.int t), some (.int s)]) (by decide +kernel) rfl rfl (List.forall_mem_cons.mpr ⟨rfl, List.forall_mem_cons.mpr ⟨rfl, List.forall_mem_cons.mpr ⟨rfl, fun _ h => absurd h List.not_mem_nil⟩⟩⟩) (Nat.le_of_ble_eq_true rfl) rfl ?_
  refine r_aload_n (q := 1) dX9_tear_0 rfl rfl rfl ?_
  refine r_getfield (q := 4) dX9_tear_1 f_X9_tear_25 H.1.1 rfl rfl ?_
  refine r_aload_n (q := 5) dX9_tear_4 rfl rfl rfl ?_
  refine r_getfield (q := 8) dX9_tear_5 f_X9_tear_10 H.1.1 rfl rfl ?_
  refine r_callV (q := 11) (ci := 5) (As := [_]) dX9_tear_8 s_X9_tear_51 H.1.2.1 rfl rfl rfl (Nat.le_of_ble_eq_true rfl) rfl rfl rfl (Nat.le_of_ble_eq_true rfl) (Nat.le_of_ble_eq_true rfl) ⟨(Nat.le_of_ble_eq_true rfl), (Nat.le_of_ble_eq_true rfl)⟩ rfl ?_
  refine ct_X3_note H.1.2.2.2 H.P (H.2.1.2.2.2 _ H.1.2.2.2) H.2.1.1 (by omega) ?_
  show WF _ E Po _ _ _ _ _ _ _
  have H1 := H.str (c := cpS (h.1 (3 + h.2.1.1)) (h.1 0)) H.1.2.2.2
  have f1 := (Fr.id (w := w) (x := x) (h := h)).sto (E := E) (c := cpS (h.1 (3 + h.2.1.1)) (h.1 0)) (b := x + 82 + 2 + 27 * h.2.1.1) (by omega) (by have := H.1.2.2.2; omega)
  have S0 : hasS E (sto E w (x + 82 + 2 + 27 * h.2.1.1) (cpS (h.1 (3 + h.2.1.1)) (h.1 0))) (x + 1) (h.1 0) := H.2.1.1.o (by omega)
  refine r_aload_n (q := 12) dX9_tear_11 rfl rfl rfl ?_
  refine r_aload_n (q := 13) dX9_tear_12 rfl rfl rfl ?_
  refine r_getfield (q := 16) dX9_tear_13 f_X9_tear_10 H1.1.1 rfl rfl ?_
  refine r_iload_n (q := 17) dX9_tear_16 rfl rfl rfl ?_
  refine r_iload_n (q := 18) dX9_tear_17 rfl rfl rfl ?_
  refine r_callV (q := 21) (ci := 7) (As := [_, _]) dX9_tear_18 s_X9_tear_97 (S0 0 (by decide)) rfl rfl rfl (Nat.le_of_ble_eq_true rfl) rfl rfl rfl (Nat.le_of_ble_eq_true rfl) (Nat.le_of_ble_eq_true rfl) ⟨(Nat.le_of_ble_eq_true rfl), (Nat.le_of_ble_eq_true rfl)⟩ rfl ?_
  refine Ct.cw S0.eq.symm (ct_X5_tearSeam ?_)
  show WF _ E Po _ _ _ _ _ _ _
  have H2 := H1.st0 (c := (tearS (h.1 0) t s).2)
  have f2 := f1.sto (E := E) (c := (tearS (h.1 0) t s).2) (b := x + 1) (by omega) (by omega)
  refine r_callV (q := 24) (ci := 11) (As := [_]) dX9_tear_21 s_X9_tear_59 H2.1.1 rfl rfl rfl (Nat.le_of_ble_eq_true rfl) rfl rfl rfl (Nat.le_of_ble_eq_true rfl) (Nat.le_of_ble_eq_true rfl) ⟨(Nat.le_of_ble_eq_true rfl), (Nat.le_of_ble_eq_true rfl)⟩ rfl ?_
  refine (ct_X9_settled (Po := xNext _ E Po _ _ _ _ _ _) H2 f2 ?_)
  unfold hS at hp ⊢
  split at hp
  · rename_i e; rw [if_pos e]; exact hp
  · rename_i e; rw [if_neg e]
    split at hp
    · rename_i e; rw [if_pos e]; exact hp
    · rename_i e; rw [if_neg e]
      split at hp
      · rename_i e; rw [if_pos e]; exact hp
      · rename_i e; rw [if_neg e]
        intro u Hu fu
        show WF _ E Po _ _ _ _ _ _ _
        exact r_iret dX9_tear_24 rfl (Nat.le_of_ble_eq_true rfl) (Nat.le_of_ble_eq_true rfl) (hp u Hu fu)
set_option maxRecDepth 100000 in
set_option maxHeartbeats 4000000 in
theorem ct_X9_mend {E : xE} {Po : xPo} {w : xW} {x : Nat} {h : xHi} {t s : Int32} (H : HI E w x h) (hp : hS Po w E x h (upS (hN h) 0 (mendS (h.1 0) t s).2) (mendS (h.1 0) t s).1) : Ct M_X9_mend E [.ref x, .int t, .int s] w Po := by
  refine Ct.of (ws2 := xAll) (L := [some (.ref x), some (.int t), some (.int s)]) (by decide +kernel) rfl rfl (List.forall_mem_cons.mpr ⟨rfl, List.forall_mem_cons.mpr ⟨rfl, List.forall_mem_cons.mpr ⟨rfl, fun _ h => absurd h List.not_mem_nil⟩⟩⟩) (Nat.le_of_ble_eq_true rfl) rfl ?_
  refine r_aload_n (q := 1) dX9_mend_0 rfl rfl rfl ?_
  refine r_getfield (q := 4) dX9_mend_1 f_X9_mend_25 H.1.1 rfl rfl ?_
  refine r_aload_n (q := 5) dX9_mend_4 rfl rfl rfl ?_
  refine r_getfield (q := 8) dX9_mend_5 f_X9_mend_10 H.1.1 rfl rfl ?_
  refine r_callV (q := 11) (ci := 5) (As := [_]) dX9_mend_8 s_X9_mend_51 H.1.2.1 rfl rfl rfl (Nat.le_of_ble_eq_true rfl) rfl rfl rfl (Nat.le_of_ble_eq_true rfl) (Nat.le_of_ble_eq_true rfl) ⟨(Nat.le_of_ble_eq_true rfl), (Nat.le_of_ble_eq_true rfl)⟩ rfl ?_
  refine ct_X3_note H.1.2.2.2 H.P (H.2.1.2.2.2 _ H.1.2.2.2) H.2.1.1 (by omega) ?_
  show WF _ E Po _ _ _ _ _ _ _
  have H1 := H.str (c := cpS (h.1 (3 + h.2.1.1)) (h.1 0)) H.1.2.2.2
  have f1 := (Fr.id (w := w) (x := x) (h := h)).sto (E := E) (c := cpS (h.1 (3 + h.2.1.1)) (h.1 0)) (b := x + 82 + 2 + 27 * h.2.1.1) (by omega) (by have := H.1.2.2.2; omega)
  have S0 : hasS E (sto E w (x + 82 + 2 + 27 * h.2.1.1) (cpS (h.1 (3 + h.2.1.1)) (h.1 0))) (x + 1) (h.1 0) := H.2.1.1.o (by omega)
  refine r_aload_n (q := 12) dX9_mend_11 rfl rfl rfl ?_
  refine r_aload_n (q := 13) dX9_mend_12 rfl rfl rfl ?_
  refine r_getfield (q := 16) dX9_mend_13 f_X9_mend_10 H1.1.1 rfl rfl ?_
  refine r_iload_n (q := 17) dX9_mend_16 rfl rfl rfl ?_
  refine r_iload_n (q := 18) dX9_mend_17 rfl rfl rfl ?_
  refine r_callV (q := 21) (ci := 7) (As := [_, _]) dX9_mend_18 s_X9_mend_101 (S0 0 (by decide)) rfl rfl rfl (Nat.le_of_ble_eq_true rfl) rfl rfl rfl (Nat.le_of_ble_eq_true rfl) (Nat.le_of_ble_eq_true rfl) ⟨(Nat.le_of_ble_eq_true rfl), (Nat.le_of_ble_eq_true rfl)⟩ rfl ?_
  refine Ct.cw S0.eq.symm (ct_X5_mendSeam ?_)
  show WF _ E Po _ _ _ _ _ _ _
  have H2 := H1.st0 (c := (mendS (h.1 0) t s).2)
  have f2 := f1.sto (E := E) (c := (mendS (h.1 0) t s).2) (b := x + 1) (by omega) (by omega)
  refine r_callV (q := 24) (ci := 11) (As := [_]) dX9_mend_21 s_X9_mend_59 H2.1.1 rfl rfl rfl (Nat.le_of_ble_eq_true rfl) rfl rfl rfl (Nat.le_of_ble_eq_true rfl) (Nat.le_of_ble_eq_true rfl) ⟨(Nat.le_of_ble_eq_true rfl), (Nat.le_of_ble_eq_true rfl)⟩ rfl ?_
  refine (ct_X9_settled (Po := xNext _ E Po _ _ _ _ _ _) H2 f2 ?_)
  unfold hS at hp ⊢
  split at hp
  · rename_i e; rw [if_pos e]; exact hp
  · rename_i e; rw [if_neg e]
    split at hp
    · rename_i e; rw [if_pos e]; exact hp
    · rename_i e; rw [if_neg e]
      split at hp
      · rename_i e; rw [if_pos e]; exact hp
      · rename_i e; rw [if_neg e]
        intro u Hu fu
        show WF _ E Po _ _ _ _ _ _ _
        exact r_iret dX9_mend_24 rfl (Nat.le_of_ble_eq_true rfl) (Nat.le_of_ble_eq_true rfl) (hp u Hu fu)
set_option maxRecDepth 100000 in
set_option maxHeartbeats 4000000 in
theorem ct_X9_out {E : xE} {Po : xPo} {w : xW} {x : Nat} {h : xHi} {t s : Int32} (H : HI E w x h) (hp : hS Po w E x h (upS (hN h) 0 (outS (h.1 0) t s).2) (outS (h.1 0) t s).1) : Ct M_X9_out E [.ref x, .int t, .int s] w Po := by
  refine Ct.of (ws2 := xAll) (L := [some (.ref x), some (.int t), some (.int s)]) (by decide +kernel) rfl rfl (List.forall_mem_cons.mpr ⟨rfl, List.forall_mem_cons.mpr ⟨rfl, List.forall_mem_cons.mpr ⟨rfl, fun _ h => absurd h List.not_mem_nil⟩⟩⟩) (Nat.le_of_ble_eq_true rfl) rfl ?_
  refine r_aload_n (q := 1) dX9_out_0 rfl rfl rfl ?_
  refine r_getfield (q := 4) dX9_out_1 f_X9_out_25 H.1.1 rfl rfl ?_
  refine r_aload_n (q := 5) dX9_out_4 rfl rfl rfl ?_
  refine r_getfield (q := 8) dX9_out_5 f_X9_out_10 H.1.1 rfl rfl ?_
  refine r_callV (q := 11) (ci := 5) (As := [_]) dX9_out_8 s_X9_out_51 H.1.2.1 rfl rfl rfl (Nat.le_of_ble_eq_true rfl) rfl rfl rfl (Nat.le_of_ble_eq_true rfl) (Nat.le_of_ble_eq_true rfl) ⟨(Nat.le_of_ble_eq_true rfl), (Nat.le_of_ble_eq_true rfl)⟩ rfl ?_
  refine ct_X3_note H.1.2.2.2 H.P (H.2.1.2.2.2 _ H.1.2.2.2) H.2.1.1 (by omega) ?_
  show WF _ E Po _ _ _ _ _ _ _
  have H1 := H.str (c := cpS (h.1 (3 + h.2.1.1)) (h.1 0)) H.1.2.2.2
  have f1 := (Fr.id (w := w) (x := x) (h := h)).sto (E := E) (c := cpS (h.1 (3 + h.2.1.1)) (h.1 0)) (b := x + 82 + 2 + 27 * h.2.1.1) (by omega) (by have := H.1.2.2.2; omega)
  have S0 : hasS E (sto E w (x + 82 + 2 + 27 * h.2.1.1) (cpS (h.1 (3 + h.2.1.1)) (h.1 0))) (x + 1) (h.1 0) := H.2.1.1.o (by omega)
  refine r_aload_n (q := 12) dX9_out_11 rfl rfl rfl ?_
  refine r_aload_n (q := 13) dX9_out_12 rfl rfl rfl ?_
  refine r_getfield (q := 16) dX9_out_13 f_X9_out_10 H1.1.1 rfl rfl ?_
  refine r_iload_n (q := 17) dX9_out_16 rfl rfl rfl ?_
  refine r_iload_n (q := 18) dX9_out_17 rfl rfl rfl ?_
  refine r_callV (q := 21) (ci := 7) (As := [_, _]) dX9_out_18 s_X9_out_110 (S0 0 (by decide)) rfl rfl rfl (Nat.le_of_ble_eq_true rfl) rfl rfl rfl (Nat.le_of_ble_eq_true rfl) (Nat.le_of_ble_eq_true rfl) ⟨(Nat.le_of_ble_eq_true rfl), (Nat.le_of_ble_eq_true rfl)⟩ rfl ?_
  refine Ct.cw S0.eq.symm (ct_X5_goOut ?_)
  show WF _ E Po _ _ _ _ _ _ _
  have H2 := H1.st0 (c := (outS (h.1 0) t s).2)
  have f2 := f1.sto (E := E) (c := (outS (h.1 0) t s).2) (b := x + 1) (by omega) (by omega)
  refine r_callV (q := 24) (ci := 11) (As := [_]) dX9_out_21 s_X9_out_59 H2.1.1 rfl rfl rfl (Nat.le_of_ble_eq_true rfl) rfl rfl rfl (Nat.le_of_ble_eq_true rfl) (Nat.le_of_ble_eq_true rfl) ⟨(Nat.le_of_ble_eq_true rfl), (Nat.le_of_ble_eq_true rfl)⟩ rfl ?_
  refine (ct_X9_settled (Po := xNext _ E Po _ _ _ _ _ _) H2 f2 ?_)
  unfold hS at hp ⊢
  split at hp
  · rename_i e; rw [if_pos e]; exact hp
  · rename_i e; rw [if_neg e]
    split at hp
    · rename_i e; rw [if_pos e]; exact hp
    · rename_i e; rw [if_neg e]
      split at hp
      · rename_i e; rw [if_pos e]; exact hp
      · rename_i e; rw [if_neg e]
        intro u Hu fu
        show WF _ E Po _ _ _ _ _ _ _
        exact r_iret dX9_out_24 rfl (Nat.le_of_ble_eq_true rfl) (Nat.le_of_ble_eq_true rfl) (hp u Hu fu)
set_option maxRecDepth 100000 in
set_option maxHeartbeats 4000000 in
theorem ct_X9_back {E : xE} {Po : xPo} {w : xW} {x : Nat} {h : xHi} {t : Int32} (H : HI E w x h) (hp : hS Po w E x h (upS (hN h) 0 (backS (h.1 0) t).2) (backS (h.1 0) t).1) : Ct M_X9_back E [.ref x, .int t] w Po := by
  refine Ct.of (ws2 := xAll) (L := [some (.ref x), some (.int t)]) (by decide +kernel) rfl rfl (List.forall_mem_cons.mpr ⟨rfl, List.forall_mem_cons.mpr ⟨rfl, fun _ h => absurd h List.not_mem_nil⟩⟩) (Nat.le_of_ble_eq_true rfl) rfl ?_
  refine r_aload_n (q := 1) dX9_back_0 rfl rfl rfl ?_
  refine r_getfield (q := 4) dX9_back_1 f_X9_back_25 H.1.1 rfl rfl ?_
  refine r_aload_n (q := 5) dX9_back_4 rfl rfl rfl ?_
  refine r_getfield (q := 8) dX9_back_5 f_X9_back_10 H.1.1 rfl rfl ?_
  refine r_callV (q := 11) (ci := 5) (As := [_]) dX9_back_8 s_X9_back_51 H.1.2.1 rfl rfl rfl (Nat.le_of_ble_eq_true rfl) rfl rfl rfl (Nat.le_of_ble_eq_true rfl) (Nat.le_of_ble_eq_true rfl) ⟨(Nat.le_of_ble_eq_true rfl), (Nat.le_of_ble_eq_true rfl)⟩ rfl ?_
  refine ct_X3_note H.1.2.2.2 H.P (H.2.1.2.2.2 _ H.1.2.2.2) H.2.1.1 (by omega) ?_
  show WF _ E Po _ _ _ _ _ _ _
  have H1 := H.str (c := cpS (h.1 (3 + h.2.1.1)) (h.1 0)) H.1.2.2.2
  have f1 := (Fr.id (w := w) (x := x) (h := h)).sto (E := E) (c := cpS (h.1 (3 + h.2.1.1)) (h.1 0)) (b := x + 82 + 2 + 27 * h.2.1.1) (by omega) (by have := H.1.2.2.2; omega)
  have S0 : hasS E (sto E w (x + 82 + 2 + 27 * h.2.1.1) (cpS (h.1 (3 + h.2.1.1)) (h.1 0))) (x + 1) (h.1 0) := H.2.1.1.o (by omega)
  refine r_aload_n (q := 12) dX9_back_11 rfl rfl rfl ?_
  refine r_aload_n (q := 13) dX9_back_12 rfl rfl rfl ?_
  refine r_getfield (q := 16) dX9_back_13 f_X9_back_10 H1.1.1 rfl rfl ?_
  refine r_iload_n (q := 17) dX9_back_16 rfl rfl rfl ?_
  refine r_callV (q := 20) (ci := 7) (As := [_]) dX9_back_17 s_X9_back_113 (S0 0 (by decide)) rfl rfl rfl (Nat.le_of_ble_eq_true rfl) rfl rfl rfl (Nat.le_of_ble_eq_true rfl) (Nat.le_of_ble_eq_true rfl) ⟨(Nat.le_of_ble_eq_true rfl), (Nat.le_of_ble_eq_true rfl)⟩ rfl ?_
  refine Ct.cw S0.eq.symm (ct_X5_bringBack ?_)
  show WF _ E Po _ _ _ _ _ _ _
  have H2 := H1.st0 (c := (backS (h.1 0) t).2)
  have f2 := f1.sto (E := E) (c := (backS (h.1 0) t).2) (b := x + 1) (by omega) (by omega)
  refine r_callV (q := 23) (ci := 11) (As := [_]) dX9_back_20 s_X9_back_59 H2.1.1 rfl rfl rfl (Nat.le_of_ble_eq_true rfl) rfl rfl rfl (Nat.le_of_ble_eq_true rfl) (Nat.le_of_ble_eq_true rfl) ⟨(Nat.le_of_ble_eq_true rfl), (Nat.le_of_ble_eq_true rfl)⟩ rfl ?_
  refine (ct_X9_settled (Po := xNext _ E Po _ _ _ _ _ _) H2 f2 ?_)
  unfold hS at hp ⊢
  split at hp
  · rename_i e; rw [if_pos e]; exact hp
  · rename_i e; rw [if_neg e]
    split at hp
    · rename_i e; rw [if_pos e]; exact hp
    · rename_i e; rw [if_neg e]
      split at hp
      · rename_i e; rw [if_pos e]; exact hp
      · rename_i e; rw [if_neg e]
        intro u Hu fu
        show WF _ E Po _ _ _ _ _ _ _
        exact r_iret dX9_back_23 rfl (Nat.le_of_ble_eq_true rfl) (Nat.le_of_ble_eq_true rfl) (hp u Hu fu)
set_option maxRecDepth 100000 in
set_option maxHeartbeats 4000000 in
theorem ct_X9_tent {E : xE} {Po : xPo} {w : xW} {x : Nat} {h : xHi} {t : Int32} (H : HI E w x h) (hp : hS Po w E x h (upS (hN h) 0 (addTentS (h.1 0) t).2) (addTentS (h.1 0) t).1) : Ct M_X9_tent E [.ref x, .int t] w Po := by
  refine Ct.of (ws2 := xAll) (L := [some (.ref x), some (.int t)]) (by decide +kernel) rfl rfl (List.forall_mem_cons.mpr ⟨rfl, List.forall_mem_cons.mpr ⟨rfl, fun _ h => absurd h List.not_mem_nil⟩⟩) (Nat.le_of_ble_eq_true rfl) rfl ?_
  refine r_aload_n (q := 1) dX9_tent_0 rfl rfl rfl ?_
  refine r_getfield (q := 4) dX9_tent_1 f_X9_tent_25 H.1.1 rfl rfl ?_
  refine r_aload_n (q := 5) dX9_tent_4 rfl rfl rfl ?_
  refine r_getfield (q := 8) dX9_tent_5 f_X9_tent_10 H.1.1 rfl rfl ?_
  refine r_callV (q := 11) (ci := 5) (As := [_]) dX9_tent_8 s_X9_tent_51 H.1.2.1 rfl rfl rfl (Nat.le_of_ble_eq_true rfl) rfl rfl rfl (Nat.le_of_ble_eq_true rfl) (Nat.le_of_ble_eq_true rfl) ⟨(Nat.le_of_ble_eq_true rfl), (Nat.le_of_ble_eq_true rfl)⟩ rfl ?_
  refine ct_X3_note H.1.2.2.2 H.P (H.2.1.2.2.2 _ H.1.2.2.2) H.2.1.1 (by omega) ?_
  show WF _ E Po _ _ _ _ _ _ _
  have H1 := H.str (c := cpS (h.1 (3 + h.2.1.1)) (h.1 0)) H.1.2.2.2
  have f1 := (Fr.id (w := w) (x := x) (h := h)).sto (E := E) (c := cpS (h.1 (3 + h.2.1.1)) (h.1 0)) (b := x + 82 + 2 + 27 * h.2.1.1) (by omega) (by have := H.1.2.2.2; omega)
  have S0 : hasS E (sto E w (x + 82 + 2 + 27 * h.2.1.1) (cpS (h.1 (3 + h.2.1.1)) (h.1 0))) (x + 1) (h.1 0) := H.2.1.1.o (by omega)
  refine r_aload_n (q := 12) dX9_tent_11 rfl rfl rfl ?_
  refine r_aload_n (q := 13) dX9_tent_12 rfl rfl rfl ?_
  refine r_getfield (q := 16) dX9_tent_13 f_X9_tent_10 H1.1.1 rfl rfl ?_
  refine r_iload_n (q := 17) dX9_tent_16 rfl rfl rfl ?_
  refine r_callV (q := 20) (ci := 7) (As := [_]) dX9_tent_17 s_X9_tent_116 (S0 0 (by decide)) rfl rfl rfl (Nat.le_of_ble_eq_true rfl) rfl rfl rfl (Nat.le_of_ble_eq_true rfl) (Nat.le_of_ble_eq_true rfl) ⟨(Nat.le_of_ble_eq_true rfl), (Nat.le_of_ble_eq_true rfl)⟩ rfl ?_
  refine Ct.cw S0.eq.symm (ct_X5_addTent ?_)
  show WF _ E Po _ _ _ _ _ _ _
  have H2 := H1.st0 (c := (addTentS (h.1 0) t).2)
  have f2 := f1.sto (E := E) (c := (addTentS (h.1 0) t).2) (b := x + 1) (by omega) (by omega)
  refine r_callV (q := 23) (ci := 11) (As := [_]) dX9_tent_20 s_X9_tent_59 H2.1.1 rfl rfl rfl (Nat.le_of_ble_eq_true rfl) rfl rfl rfl (Nat.le_of_ble_eq_true rfl) (Nat.le_of_ble_eq_true rfl) ⟨(Nat.le_of_ble_eq_true rfl), (Nat.le_of_ble_eq_true rfl)⟩ rfl ?_
  refine (ct_X9_settled (Po := xNext _ E Po _ _ _ _ _ _) H2 f2 ?_)
  unfold hS at hp ⊢
  split at hp
  · rename_i e; rw [if_pos e]; exact hp
  · rename_i e; rw [if_neg e]
    split at hp
    · rename_i e; rw [if_pos e]; exact hp
    · rename_i e; rw [if_neg e]
      split at hp
      · rename_i e; rw [if_pos e]; exact hp
      · rename_i e; rw [if_neg e]
        intro u Hu fu
        show WF _ E Po _ _ _ _ _ _ _
        exact r_iret dX9_tent_23 rfl (Nat.le_of_ble_eq_true rfl) (Nat.le_of_ble_eq_true rfl) (hp u Hu fu)
set_option maxRecDepth 100000 in
set_option maxHeartbeats 4000000 in
theorem ct_X9_join {E : xE} {Po : xPo} {w : xW} {x : Nat} {h : xHi} {t : Int32} (H : HI E w x h) (hc : inC (h.1 0)) (hp : hS Po w E x h (upS (hN h) 0 (joinS (h.1 0) t).2) (joinS (h.1 0) t).1) : Ct M_X9_join E [.ref x, .int t] w Po := by
  refine Ct.of (ws2 := xAll) (L := [some (.ref x), some (.int t)]) (by decide +kernel) rfl rfl (List.forall_mem_cons.mpr ⟨rfl, List.forall_mem_cons.mpr ⟨rfl, fun _ h => absurd h List.not_mem_nil⟩⟩) (Nat.le_of_ble_eq_true rfl) rfl ?_
  refine r_aload_n (q := 1) dX9_join_0 rfl rfl rfl ?_
  refine r_getfield (q := 4) dX9_join_1 f_X9_join_25 H.1.1 rfl rfl ?_
  refine r_aload_n (q := 5) dX9_join_4 rfl rfl rfl ?_
  refine r_getfield (q := 8) dX9_join_5 f_X9_join_10 H.1.1 rfl rfl ?_
  refine r_callV (q := 11) (ci := 5) (As := [_]) dX9_join_8 s_X9_join_51 H.1.2.1 rfl rfl rfl (Nat.le_of_ble_eq_true rfl) rfl rfl rfl (Nat.le_of_ble_eq_true rfl) (Nat.le_of_ble_eq_true rfl) ⟨(Nat.le_of_ble_eq_true rfl), (Nat.le_of_ble_eq_true rfl)⟩ rfl ?_
  refine ct_X3_note H.1.2.2.2 H.P (H.2.1.2.2.2 _ H.1.2.2.2) H.2.1.1 (by omega) ?_
  show WF _ E Po _ _ _ _ _ _ _
  have H1 := H.str (c := cpS (h.1 (3 + h.2.1.1)) (h.1 0)) H.1.2.2.2
  have f1 := (Fr.id (w := w) (x := x) (h := h)).sto (E := E) (c := cpS (h.1 (3 + h.2.1.1)) (h.1 0)) (b := x + 82 + 2 + 27 * h.2.1.1) (by omega) (by have := H.1.2.2.2; omega)
  have S0 : hasS E (sto E w (x + 82 + 2 + 27 * h.2.1.1) (cpS (h.1 (3 + h.2.1.1)) (h.1 0))) (x + 1) (h.1 0) := H.2.1.1.o (by omega)
  refine r_aload_n (q := 12) dX9_join_11 rfl rfl rfl ?_
  refine r_aload_n (q := 13) dX9_join_12 rfl rfl rfl ?_
  refine r_getfield (q := 16) dX9_join_13 f_X9_join_10 H1.1.1 rfl rfl ?_
  refine r_iload_n (q := 17) dX9_join_16 rfl rfl rfl ?_
  refine r_callV (q := 20) (ci := 7) (As := [_]) dX9_join_17 s_X9_join_135 (S0 0 (by decide)) rfl rfl rfl (Nat.le_of_ble_eq_true rfl) rfl rfl rfl (Nat.le_of_ble_eq_true rfl) (Nat.le_of_ble_eq_true rfl) ⟨(Nat.le_of_ble_eq_true rfl), (Nat.le_of_ble_eq_true rfl)⟩ rfl ?_
  refine Ct.cw S0.eq.symm (ct_X5_addGuest hc ?_)
  show WF _ E Po _ _ _ _ _ _ _
  have H2 := H1.st0 (c := (joinS (h.1 0) t).2)
  have f2 := f1.sto (E := E) (c := (joinS (h.1 0) t).2) (b := x + 1) (by omega) (by omega)
  refine r_callV (q := 23) (ci := 11) (As := [_]) dX9_join_20 s_X9_join_59 H2.1.1 rfl rfl rfl (Nat.le_of_ble_eq_true rfl) rfl rfl rfl (Nat.le_of_ble_eq_true rfl) (Nat.le_of_ble_eq_true rfl) ⟨(Nat.le_of_ble_eq_true rfl), (Nat.le_of_ble_eq_true rfl)⟩ rfl ?_
  refine (ct_X9_settled (Po := xNext _ E Po _ _ _ _ _ _) H2 f2 ?_)
  unfold hS at hp ⊢
  split at hp
  · rename_i e; rw [if_pos e]; exact hp
  · rename_i e; rw [if_neg e]
    split at hp
    · rename_i e; rw [if_pos e]; exact hp
    · rename_i e; rw [if_neg e]
      split at hp
      · rename_i e; rw [if_pos e]; exact hp
      · rename_i e; rw [if_neg e]
        intro u Hu fu
        show WF _ E Po _ _ _ _ _ _ _
        exact r_iret dX9_join_23 rfl (Nat.le_of_ble_eq_true rfl) (Nat.le_of_ble_eq_true rfl) (hp u Hu fu)
set_option maxRecDepth 100000 in
set_option maxHeartbeats 4000000 in
theorem ct_X9_heater {E : xE} {Po : xPo} {w : xW} {x : Nat} {h : xHi} (H : HI E w x h) (hp : hS Po w E x h (upS (hN h) 0 (addHeaterS (h.1 0)).2) (addHeaterS (h.1 0)).1) : Ct M_X9_heater E [.ref x] w Po := by
  refine Ct.of (ws2 := xAll) (L := [some (.ref x)]) (by decide +kernel) rfl rfl (List.forall_mem_cons.mpr ⟨rfl, fun _ h => absurd h List.not_mem_nil⟩) (Nat.le_of_ble_eq_true rfl) rfl ?_
  refine r_aload_n (q := 1) dX9_heater_0 rfl rfl rfl ?_
  refine r_getfield (q := 4) dX9_heater_1 f_X9_heater_25 H.1.1 rfl rfl ?_
  refine r_aload_n (q := 5) dX9_heater_4 rfl rfl rfl ?_
  refine r_getfield (q := 8) dX9_heater_5 f_X9_heater_10 H.1.1 rfl rfl ?_
  refine r_callV (q := 11) (ci := 5) (As := [_]) dX9_heater_8 s_X9_heater_51 H.1.2.1 rfl rfl rfl (Nat.le_of_ble_eq_true rfl) rfl rfl rfl (Nat.le_of_ble_eq_true rfl) (Nat.le_of_ble_eq_true rfl) ⟨(Nat.le_of_ble_eq_true rfl), (Nat.le_of_ble_eq_true rfl)⟩ rfl ?_
  refine ct_X3_note H.1.2.2.2 H.P (H.2.1.2.2.2 _ H.1.2.2.2) H.2.1.1 (by omega) ?_
  show WF _ E Po _ _ _ _ _ _ _
  have H1 := H.str (c := cpS (h.1 (3 + h.2.1.1)) (h.1 0)) H.1.2.2.2
  have f1 := (Fr.id (w := w) (x := x) (h := h)).sto (E := E) (c := cpS (h.1 (3 + h.2.1.1)) (h.1 0)) (b := x + 82 + 2 + 27 * h.2.1.1) (by omega) (by have := H.1.2.2.2; omega)
  have S0 : hasS E (sto E w (x + 82 + 2 + 27 * h.2.1.1) (cpS (h.1 (3 + h.2.1.1)) (h.1 0))) (x + 1) (h.1 0) := H.2.1.1.o (by omega)
  refine r_aload_n (q := 12) dX9_heater_11 rfl rfl rfl ?_
  refine r_aload_n (q := 13) dX9_heater_12 rfl rfl rfl ?_
  refine r_getfield (q := 16) dX9_heater_13 f_X9_heater_10 H1.1.1 rfl rfl ?_
  refine r_callV (q := 19) (ci := 7) (As := []) dX9_heater_16 s_X9_heater_138 (S0 0 (by decide)) rfl rfl rfl (Nat.le_of_ble_eq_true rfl) rfl rfl rfl (Nat.le_of_ble_eq_true rfl) (Nat.le_of_ble_eq_true rfl) ⟨(Nat.le_of_ble_eq_true rfl), (Nat.le_of_ble_eq_true rfl)⟩ rfl ?_
  refine Ct.cw S0.eq.symm (ct_X5_addHeater ?_)
  show WF _ E Po _ _ _ _ _ _ _
  have H2 := H1.st0 (c := (addHeaterS (h.1 0)).2)
  have f2 := f1.sto (E := E) (c := (addHeaterS (h.1 0)).2) (b := x + 1) (by omega) (by omega)
  refine r_callV (q := 22) (ci := 11) (As := [_]) dX9_heater_19 s_X9_heater_59 H2.1.1 rfl rfl rfl (Nat.le_of_ble_eq_true rfl) rfl rfl rfl (Nat.le_of_ble_eq_true rfl) (Nat.le_of_ble_eq_true rfl) ⟨(Nat.le_of_ble_eq_true rfl), (Nat.le_of_ble_eq_true rfl)⟩ rfl ?_
  refine (ct_X9_settled (Po := xNext _ E Po _ _ _ _ _ _) H2 f2 ?_)
  unfold hS at hp ⊢
  split at hp
  · rename_i e; rw [if_pos e]; exact hp
  · rename_i e; rw [if_neg e]
    split at hp
    · rename_i e; rw [if_pos e]; exact hp
    · rename_i e; rw [if_neg e]
      split at hp
      · rename_i e; rw [if_pos e]; exact hp
      · rename_i e; rw [if_neg e]
        intro u Hu fu
        show WF _ E Po _ _ _ _ _ _ _
        exact r_iret dX9_heater_22 rfl (Nat.le_of_ble_eq_true rfl) (Nat.le_of_ble_eq_true rfl) (hp u Hu fu)
set_option maxRecDepth 100000 in
set_option maxHeartbeats 4000000 in
theorem ct_X9_heat {E : xE} {Po : xPo} {w : xW} {x : Nat} {h : xHi} {t s : Int32} (H : HI E w x h) (hp : hS Po w E x h (upS (hN h) 0 (heatPS (h.1 0) t s).2) (heatPS (h.1 0) t s).1) : Ct M_X9_heat E [.ref x, .int t, .int s] w Po := by
  refine Ct.of (ws2 := xAll) (L := [some (.ref x), some (.int t), some (.int s)]) (by decide +kernel) rfl rfl (List.forall_mem_cons.mpr ⟨rfl, List.forall_mem_cons.mpr ⟨rfl, List.forall_mem_cons.mpr ⟨rfl, fun _ h => absurd h List.not_mem_nil⟩⟩⟩) (Nat.le_of_ble_eq_true rfl) rfl ?_
  refine r_aload_n (q := 1) dX9_heat_0 rfl rfl rfl ?_
  refine r_getfield (q := 4) dX9_heat_1 f_X9_heat_25 H.1.1 rfl rfl ?_
  refine r_aload_n (q := 5) dX9_heat_4 rfl rfl rfl ?_
  refine r_getfield (q := 8) dX9_heat_5 f_X9_heat_10 H.1.1 rfl rfl ?_
  refine r_callV (q := 11) (ci := 5) (As := [_]) dX9_heat_8 s_X9_heat_51 H.1.2.1 rfl rfl rfl (Nat.le_of_ble_eq_true rfl) rfl rfl rfl (Nat.le_of_ble_eq_true rfl) (Nat.le_of_ble_eq_true rfl) ⟨(Nat.le_of_ble_eq_true rfl), (Nat.le_of_ble_eq_true rfl)⟩ rfl ?_
  refine ct_X3_note H.1.2.2.2 H.P (H.2.1.2.2.2 _ H.1.2.2.2) H.2.1.1 (by omega) ?_
  show WF _ E Po _ _ _ _ _ _ _
  have H1 := H.str (c := cpS (h.1 (3 + h.2.1.1)) (h.1 0)) H.1.2.2.2
  have f1 := (Fr.id (w := w) (x := x) (h := h)).sto (E := E) (c := cpS (h.1 (3 + h.2.1.1)) (h.1 0)) (b := x + 82 + 2 + 27 * h.2.1.1) (by omega) (by have := H.1.2.2.2; omega)
  have S0 : hasS E (sto E w (x + 82 + 2 + 27 * h.2.1.1) (cpS (h.1 (3 + h.2.1.1)) (h.1 0))) (x + 1) (h.1 0) := H.2.1.1.o (by omega)
  refine r_aload_n (q := 12) dX9_heat_11 rfl rfl rfl ?_
  refine r_aload_n (q := 13) dX9_heat_12 rfl rfl rfl ?_
  refine r_getfield (q := 16) dX9_heat_13 f_X9_heat_10 H1.1.1 rfl rfl ?_
  refine r_iload_n (q := 17) dX9_heat_16 rfl rfl rfl ?_
  refine r_iload_n (q := 18) dX9_heat_17 rfl rfl rfl ?_
  refine r_callV (q := 21) (ci := 7) (As := [_, _]) dX9_heat_18 s_X9_heat_155 (S0 0 (by decide)) rfl rfl rfl (Nat.le_of_ble_eq_true rfl) rfl rfl rfl (Nat.le_of_ble_eq_true rfl) (Nat.le_of_ble_eq_true rfl) ⟨(Nat.le_of_ble_eq_true rfl), (Nat.le_of_ble_eq_true rfl)⟩ rfl ?_
  refine Ct.cw S0.eq.symm (ct_X5_putHeater ?_)
  show WF _ E Po _ _ _ _ _ _ _
  have H2 := H1.st0 (c := (heatPS (h.1 0) t s).2)
  have f2 := f1.sto (E := E) (c := (heatPS (h.1 0) t s).2) (b := x + 1) (by omega) (by omega)
  refine r_callV (q := 24) (ci := 11) (As := [_]) dX9_heat_21 s_X9_heat_59 H2.1.1 rfl rfl rfl (Nat.le_of_ble_eq_true rfl) rfl rfl rfl (Nat.le_of_ble_eq_true rfl) (Nat.le_of_ble_eq_true rfl) ⟨(Nat.le_of_ble_eq_true rfl), (Nat.le_of_ble_eq_true rfl)⟩ rfl ?_
  refine (ct_X9_settled (Po := xNext _ E Po _ _ _ _ _ _) H2 f2 ?_)
  unfold hS at hp ⊢
  split at hp
  · rename_i e; rw [if_pos e]; exact hp
  · rename_i e; rw [if_neg e]
    split at hp
    · rename_i e; rw [if_pos e]; exact hp
    · rename_i e; rw [if_neg e]
      split at hp
      · rename_i e; rw [if_pos e]; exact hp
      · rename_i e; rw [if_neg e]
        intro u Hu fu
        show WF _ E Po _ _ _ _ _ _ _
        exact r_iret dX9_heat_24 rfl (Nat.le_of_ble_eq_true rfl) (Nat.le_of_ble_eq_true rfl) (hp u Hu fu)
set_option maxRecDepth 100000 in
set_option maxHeartbeats 4000000 in
theorem ct_X9_cold {E : xE} {Po : xPo} {w : xW} {x : Nat} {h : xHi} {t : Int32} (H : HI E w x h) (hp : hS Po w E x h (upS (hN h) 0 (coldS (h.1 0) t).2) (coldS (h.1 0) t).1) : Ct M_X9_cold E [.ref x, .int t] w Po := by
  refine Ct.of (ws2 := xAll) (L := [some (.ref x), some (.int t)]) (by decide +kernel) rfl rfl (List.forall_mem_cons.mpr ⟨rfl, List.forall_mem_cons.mpr ⟨rfl, fun _ h => absurd h List.not_mem_nil⟩⟩) (Nat.le_of_ble_eq_true rfl) rfl ?_
  refine r_aload_n (q := 1) dX9_cold_0 rfl rfl rfl ?_
  refine r_getfield (q := 4) dX9_cold_1 f_X9_cold_25 H.1.1 rfl rfl ?_
  refine r_aload_n (q := 5) dX9_cold_4 rfl rfl rfl ?_
  refine r_getfield (q := 8) dX9_cold_5 f_X9_cold_10 H.1.1 rfl rfl ?_
  refine r_callV (q := 11) (ci := 5) (As := [_]) dX9_cold_8 s_X9_cold_51 H.1.2.1 rfl rfl rfl (Nat.le_of_ble_eq_true rfl) rfl rfl rfl (Nat.le_of_ble_eq_true rfl) (Nat.le_of_ble_eq_true rfl) ⟨(Nat.le_of_ble_eq_true rfl), (Nat.le_of_ble_eq_true rfl)⟩ rfl ?_
  refine ct_X3_note H.1.2.2.2 H.P (H.2.1.2.2.2 _ H.1.2.2.2) H.2.1.1 (by omega) ?_
  show WF _ E Po _ _ _ _ _ _ _
  have H1 := H.str (c := cpS (h.1 (3 + h.2.1.1)) (h.1 0)) H.1.2.2.2
  have f1 := (Fr.id (w := w) (x := x) (h := h)).sto (E := E) (c := cpS (h.1 (3 + h.2.1.1)) (h.1 0)) (b := x + 82 + 2 + 27 * h.2.1.1) (by omega) (by have := H.1.2.2.2; omega)
  have S0 : hasS E (sto E w (x + 82 + 2 + 27 * h.2.1.1) (cpS (h.1 (3 + h.2.1.1)) (h.1 0))) (x + 1) (h.1 0) := H.2.1.1.o (by omega)
  refine r_aload_n (q := 12) dX9_cold_11 rfl rfl rfl ?_
  refine r_aload_n (q := 13) dX9_cold_12 rfl rfl rfl ?_
  refine r_getfield (q := 16) dX9_cold_13 f_X9_cold_10 H1.1.1 rfl rfl ?_
  refine r_iload_n (q := 17) dX9_cold_16 rfl rfl rfl ?_
  refine r_callV (q := 20) (ci := 7) (As := [_]) dX9_cold_17 s_X9_cold_158 (S0 0 (by decide)) rfl rfl rfl (Nat.le_of_ble_eq_true rfl) rfl rfl rfl (Nat.le_of_ble_eq_true rfl) (Nat.le_of_ble_eq_true rfl) ⟨(Nat.le_of_ble_eq_true rfl), (Nat.le_of_ble_eq_true rfl)⟩ rfl ?_
  refine Ct.cw S0.eq.symm (ct_X5_takeHeater ?_)
  show WF _ E Po _ _ _ _ _ _ _
  have H2 := H1.st0 (c := (coldS (h.1 0) t).2)
  have f2 := f1.sto (E := E) (c := (coldS (h.1 0) t).2) (b := x + 1) (by omega) (by omega)
  refine r_callV (q := 23) (ci := 11) (As := [_]) dX9_cold_20 s_X9_cold_59 H2.1.1 rfl rfl rfl (Nat.le_of_ble_eq_true rfl) rfl rfl rfl (Nat.le_of_ble_eq_true rfl) (Nat.le_of_ble_eq_true rfl) ⟨(Nat.le_of_ble_eq_true rfl), (Nat.le_of_ble_eq_true rfl)⟩ rfl ?_
  refine (ct_X9_settled (Po := xNext _ E Po _ _ _ _ _ _) H2 f2 ?_)
  unfold hS at hp ⊢
  split at hp
  · rename_i e; rw [if_pos e]; exact hp
  · rename_i e; rw [if_neg e]
    split at hp
    · rename_i e; rw [if_pos e]; exact hp
    · rename_i e; rw [if_neg e]
      split at hp
      · rename_i e; rw [if_pos e]; exact hp
      · rename_i e; rw [if_neg e]
        intro u Hu fu
        show WF _ E Po _ _ _ _ _ _ _
        exact r_iret dX9_cold_23 rfl (Nat.le_of_ble_eq_true rfl) (Nat.le_of_ble_eq_true rfl) (hp u Hu fu)
set_option maxRecDepth 100000 in
set_option maxHeartbeats 4000000 in
theorem ct_X9_gas {E : xE} {Po : xPo} {w : xW} {x : Nat} {h : xHi} {t s : Int32} (H : HI E w x h) (hp : hS Po w E x h (upS (hN h) 0 (gasS (h.1 0) t s).2) (gasS (h.1 0) t s).1) : Ct M_X9_gas E [.ref x, .int t, .int s] w Po := by
  refine Ct.of (ws2 := xAll) (L := [some (.ref x), some (.int t), some (.int s)]) (by decide +kernel) rfl rfl (List.forall_mem_cons.mpr ⟨rfl, List.forall_mem_cons.mpr ⟨rfl, List.forall_mem_cons.mpr ⟨rfl, fun _ h => absurd h List.not_mem_nil⟩⟩⟩) (Nat.le_of_ble_eq_true rfl) rfl ?_
  refine r_aload_n (q := 1) dX9_gas_0 rfl rfl rfl ?_
  refine r_getfield (q := 4) dX9_gas_1 f_X9_gas_25 H.1.1 rfl rfl ?_
  refine r_aload_n (q := 5) dX9_gas_4 rfl rfl rfl ?_
  refine r_getfield (q := 8) dX9_gas_5 f_X9_gas_10 H.1.1 rfl rfl ?_
  refine r_callV (q := 11) (ci := 5) (As := [_]) dX9_gas_8 s_X9_gas_51 H.1.2.1 rfl rfl rfl (Nat.le_of_ble_eq_true rfl) rfl rfl rfl (Nat.le_of_ble_eq_true rfl) (Nat.le_of_ble_eq_true rfl) ⟨(Nat.le_of_ble_eq_true rfl), (Nat.le_of_ble_eq_true rfl)⟩ rfl ?_
  refine ct_X3_note H.1.2.2.2 H.P (H.2.1.2.2.2 _ H.1.2.2.2) H.2.1.1 (by omega) ?_
  show WF _ E Po _ _ _ _ _ _ _
  have H1 := H.str (c := cpS (h.1 (3 + h.2.1.1)) (h.1 0)) H.1.2.2.2
  have f1 := (Fr.id (w := w) (x := x) (h := h)).sto (E := E) (c := cpS (h.1 (3 + h.2.1.1)) (h.1 0)) (b := x + 82 + 2 + 27 * h.2.1.1) (by omega) (by have := H.1.2.2.2; omega)
  have S0 : hasS E (sto E w (x + 82 + 2 + 27 * h.2.1.1) (cpS (h.1 (3 + h.2.1.1)) (h.1 0))) (x + 1) (h.1 0) := H.2.1.1.o (by omega)
  refine r_aload_n (q := 12) dX9_gas_11 rfl rfl rfl ?_
  refine r_aload_n (q := 13) dX9_gas_12 rfl rfl rfl ?_
  refine r_getfield (q := 16) dX9_gas_13 f_X9_gas_10 H1.1.1 rfl rfl ?_
  refine r_iload_n (q := 17) dX9_gas_16 rfl rfl rfl ?_
  refine r_iload_n (q := 18) dX9_gas_17 rfl rfl rfl ?_
  refine r_callV (q := 21) (ci := 7) (As := [_, _]) dX9_gas_18 s_X9_gas_161 (S0 0 (by decide)) rfl rfl rfl (Nat.le_of_ble_eq_true rfl) rfl rfl rfl (Nat.le_of_ble_eq_true rfl) (Nat.le_of_ble_eq_true rfl) ⟨(Nat.le_of_ble_eq_true rfl), (Nat.le_of_ble_eq_true rfl)⟩ rfl ?_
  refine Ct.cw S0.eq.symm (ct_X5_buyGas ?_)
  show WF _ E Po _ _ _ _ _ _ _
  have H2 := H1.st0 (c := (gasS (h.1 0) t s).2)
  have f2 := f1.sto (E := E) (c := (gasS (h.1 0) t s).2) (b := x + 1) (by omega) (by omega)
  refine r_callV (q := 24) (ci := 11) (As := [_]) dX9_gas_21 s_X9_gas_59 H2.1.1 rfl rfl rfl (Nat.le_of_ble_eq_true rfl) rfl rfl rfl (Nat.le_of_ble_eq_true rfl) (Nat.le_of_ble_eq_true rfl) ⟨(Nat.le_of_ble_eq_true rfl), (Nat.le_of_ble_eq_true rfl)⟩ rfl ?_
  refine (ct_X9_settled (Po := xNext _ E Po _ _ _ _ _ _) H2 f2 ?_)
  unfold hS at hp ⊢
  split at hp
  · rename_i e; rw [if_pos e]; exact hp
  · rename_i e; rw [if_neg e]
    split at hp
    · rename_i e; rw [if_pos e]; exact hp
    · rename_i e; rw [if_neg e]
      split at hp
      · rename_i e; rw [if_pos e]; exact hp
      · rename_i e; rw [if_neg e]
        intro u Hu fu
        show WF _ E Po _ _ _ _ _ _ _
        exact r_iret dX9_gas_24 rfl (Nat.le_of_ble_eq_true rfl) (Nat.le_of_ble_eq_true rfl) (hp u Hu fu)
set_option maxRecDepth 100000 in
set_option maxHeartbeats 4000000 in
theorem ct_X9_wash {E : xE} {Po : xPo} {w : xW} {x : Nat} {h : xHi} {t : Int32} (H : HI E w x h) (hp : hS Po w E x h (upS (hN h) 0 (washS (h.1 0) t).2) (washS (h.1 0) t).1) : Ct M_X9_wash E [.ref x, .int t] w Po := by
  refine Ct.of (ws2 := xAll) (L := [some (.ref x), some (.int t)]) (by decide +kernel) rfl rfl (List.forall_mem_cons.mpr ⟨rfl, List.forall_mem_cons.mpr ⟨rfl, fun _ h => absurd h List.not_mem_nil⟩⟩) (Nat.le_of_ble_eq_true rfl) rfl ?_
  refine r_aload_n (q := 1) dX9_wash_0 rfl rfl rfl ?_
  refine r_getfield (q := 4) dX9_wash_1 f_X9_wash_25 H.1.1 rfl rfl ?_
  refine r_aload_n (q := 5) dX9_wash_4 rfl rfl rfl ?_
  refine r_getfield (q := 8) dX9_wash_5 f_X9_wash_10 H.1.1 rfl rfl ?_
  refine r_callV (q := 11) (ci := 5) (As := [_]) dX9_wash_8 s_X9_wash_51 H.1.2.1 rfl rfl rfl (Nat.le_of_ble_eq_true rfl) rfl rfl rfl (Nat.le_of_ble_eq_true rfl) (Nat.le_of_ble_eq_true rfl) ⟨(Nat.le_of_ble_eq_true rfl), (Nat.le_of_ble_eq_true rfl)⟩ rfl ?_
  refine ct_X3_note H.1.2.2.2 H.P (H.2.1.2.2.2 _ H.1.2.2.2) H.2.1.1 (by omega) ?_
  show WF _ E Po _ _ _ _ _ _ _
  have H1 := H.str (c := cpS (h.1 (3 + h.2.1.1)) (h.1 0)) H.1.2.2.2
  have f1 := (Fr.id (w := w) (x := x) (h := h)).sto (E := E) (c := cpS (h.1 (3 + h.2.1.1)) (h.1 0)) (b := x + 82 + 2 + 27 * h.2.1.1) (by omega) (by have := H.1.2.2.2; omega)
  have S0 : hasS E (sto E w (x + 82 + 2 + 27 * h.2.1.1) (cpS (h.1 (3 + h.2.1.1)) (h.1 0))) (x + 1) (h.1 0) := H.2.1.1.o (by omega)
  refine r_aload_n (q := 12) dX9_wash_11 rfl rfl rfl ?_
  refine r_aload_n (q := 13) dX9_wash_12 rfl rfl rfl ?_
  refine r_getfield (q := 16) dX9_wash_13 f_X9_wash_10 H1.1.1 rfl rfl ?_
  refine r_iload_n (q := 17) dX9_wash_16 rfl rfl rfl ?_
  refine r_callV (q := 20) (ci := 7) (As := [_]) dX9_wash_17 s_X9_wash_164 (S0 0 (by decide)) rfl rfl rfl (Nat.le_of_ble_eq_true rfl) rfl rfl rfl (Nat.le_of_ble_eq_true rfl) (Nat.le_of_ble_eq_true rfl) ⟨(Nat.le_of_ble_eq_true rfl), (Nat.le_of_ble_eq_true rfl)⟩ rfl ?_
  refine Ct.cw S0.eq.symm (ct_X5_washTowels ?_)
  show WF _ E Po _ _ _ _ _ _ _
  have H2 := H1.st0 (c := (washS (h.1 0) t).2)
  have f2 := f1.sto (E := E) (c := (washS (h.1 0) t).2) (b := x + 1) (by omega) (by omega)
  refine r_callV (q := 23) (ci := 11) (As := [_]) dX9_wash_20 s_X9_wash_59 H2.1.1 rfl rfl rfl (Nat.le_of_ble_eq_true rfl) rfl rfl rfl (Nat.le_of_ble_eq_true rfl) (Nat.le_of_ble_eq_true rfl) ⟨(Nat.le_of_ble_eq_true rfl), (Nat.le_of_ble_eq_true rfl)⟩ rfl ?_
  refine (ct_X9_settled (Po := xNext _ E Po _ _ _ _ _ _) H2 f2 ?_)
  unfold hS at hp ⊢
  split at hp
  · rename_i e; rw [if_pos e]; exact hp
  · rename_i e; rw [if_neg e]
    split at hp
    · rename_i e; rw [if_pos e]; exact hp
    · rename_i e; rw [if_neg e]
      split at hp
      · rename_i e; rw [if_pos e]; exact hp
      · rename_i e; rw [if_neg e]
        intro u Hu fu
        show WF _ E Po _ _ _ _ _ _ _
        exact r_iret dX9_wash_23 rfl (Nat.le_of_ble_eq_true rfl) (Nat.le_of_ble_eq_true rfl) (hp u Hu fu)
set_option maxRecDepth 100000 in
set_option maxHeartbeats 4000000 in
theorem ct_X9_soap {E : xE} {Po : xPo} {w : xW} {x : Nat} {h : xHi} {t : Int32} (H : HI E w x h) (hp : hS Po w E x h (upS (hN h) 0 (soapS (h.1 0) t).2) (soapS (h.1 0) t).1) : Ct M_X9_soap E [.ref x, .int t] w Po := by
  refine Ct.of (ws2 := xAll) (L := [some (.ref x), some (.int t)]) (by decide +kernel) rfl rfl (List.forall_mem_cons.mpr ⟨rfl, List.forall_mem_cons.mpr ⟨rfl, fun _ h => absurd h List.not_mem_nil⟩⟩) (Nat.le_of_ble_eq_true rfl) rfl ?_
  refine r_aload_n (q := 1) dX9_soap_0 rfl rfl rfl ?_
  refine r_getfield (q := 4) dX9_soap_1 f_X9_soap_25 H.1.1 rfl rfl ?_
  refine r_aload_n (q := 5) dX9_soap_4 rfl rfl rfl ?_
  refine r_getfield (q := 8) dX9_soap_5 f_X9_soap_10 H.1.1 rfl rfl ?_
  refine r_callV (q := 11) (ci := 5) (As := [_]) dX9_soap_8 s_X9_soap_51 H.1.2.1 rfl rfl rfl (Nat.le_of_ble_eq_true rfl) rfl rfl rfl (Nat.le_of_ble_eq_true rfl) (Nat.le_of_ble_eq_true rfl) ⟨(Nat.le_of_ble_eq_true rfl), (Nat.le_of_ble_eq_true rfl)⟩ rfl ?_
  refine ct_X3_note H.1.2.2.2 H.P (H.2.1.2.2.2 _ H.1.2.2.2) H.2.1.1 (by omega) ?_
  show WF _ E Po _ _ _ _ _ _ _
  have H1 := H.str (c := cpS (h.1 (3 + h.2.1.1)) (h.1 0)) H.1.2.2.2
  have f1 := (Fr.id (w := w) (x := x) (h := h)).sto (E := E) (c := cpS (h.1 (3 + h.2.1.1)) (h.1 0)) (b := x + 82 + 2 + 27 * h.2.1.1) (by omega) (by have := H.1.2.2.2; omega)
  have S0 : hasS E (sto E w (x + 82 + 2 + 27 * h.2.1.1) (cpS (h.1 (3 + h.2.1.1)) (h.1 0))) (x + 1) (h.1 0) := H.2.1.1.o (by omega)
  refine r_aload_n (q := 12) dX9_soap_11 rfl rfl rfl ?_
  refine r_aload_n (q := 13) dX9_soap_12 rfl rfl rfl ?_
  refine r_getfield (q := 16) dX9_soap_13 f_X9_soap_10 H1.1.1 rfl rfl ?_
  refine r_iload_n (q := 17) dX9_soap_16 rfl rfl rfl ?_
  refine r_callV (q := 20) (ci := 7) (As := [_]) dX9_soap_17 s_X9_soap_167 (S0 0 (by decide)) rfl rfl rfl (Nat.le_of_ble_eq_true rfl) rfl rfl rfl (Nat.le_of_ble_eq_true rfl) (Nat.le_of_ble_eq_true rfl) ⟨(Nat.le_of_ble_eq_true rfl), (Nat.le_of_ble_eq_true rfl)⟩ rfl ?_
  refine Ct.cw S0.eq.symm (ct_X5_buySoap ?_)
  show WF _ E Po _ _ _ _ _ _ _
  have H2 := H1.st0 (c := (soapS (h.1 0) t).2)
  have f2 := f1.sto (E := E) (c := (soapS (h.1 0) t).2) (b := x + 1) (by omega) (by omega)
  refine r_callV (q := 23) (ci := 11) (As := [_]) dX9_soap_20 s_X9_soap_59 H2.1.1 rfl rfl rfl (Nat.le_of_ble_eq_true rfl) rfl rfl rfl (Nat.le_of_ble_eq_true rfl) (Nat.le_of_ble_eq_true rfl) ⟨(Nat.le_of_ble_eq_true rfl), (Nat.le_of_ble_eq_true rfl)⟩ rfl ?_
  refine (ct_X9_settled (Po := xNext _ E Po _ _ _ _ _ _) H2 f2 ?_)
  unfold hS at hp ⊢
  split at hp
  · rename_i e; rw [if_pos e]; exact hp
  · rename_i e; rw [if_neg e]
    split at hp
    · rename_i e; rw [if_pos e]; exact hp
    · rename_i e; rw [if_neg e]
      split at hp
      · rename_i e; rw [if_pos e]; exact hp
      · rename_i e; rw [if_neg e]
        intro u Hu fu
        show WF _ E Po _ _ _ _ _ _ _
        exact r_iret dX9_soap_23 rfl (Nat.le_of_ble_eq_true rfl) (Nat.le_of_ble_eq_true rfl) (hp u Hu fu)
set_option maxRecDepth 100000 in
set_option maxHeartbeats 4000000 in
theorem ct_X9_pass {E : xE} {Po : xPo} {w : xW} {x : Nat} {h : xHi} {t : Int32} (H : HI E w x h) (hc : inC (h.1 0)) (hp : hS Po w E x h (upS (hN h) 0 (passS (h.1 0) t).2) (passS (h.1 0) t).1) : Ct M_X9_pass E [.ref x, .int t] w Po := by
  refine Ct.of (ws2 := xAll) (L := [some (.ref x), some (.int t)]) (by decide +kernel) rfl rfl (List.forall_mem_cons.mpr ⟨rfl, List.forall_mem_cons.mpr ⟨rfl, fun _ h => absurd h List.not_mem_nil⟩⟩) (Nat.le_of_ble_eq_true rfl) rfl ?_
  refine r_aload_n (q := 1) dX9_pass_0 rfl rfl rfl ?_
  refine r_getfield (q := 4) dX9_pass_1 f_X9_pass_25 H.1.1 rfl rfl ?_
  refine r_aload_n (q := 5) dX9_pass_4 rfl rfl rfl ?_
  refine r_getfield (q := 8) dX9_pass_5 f_X9_pass_10 H.1.1 rfl rfl ?_
  refine r_callV (q := 11) (ci := 5) (As := [_]) dX9_pass_8 s_X9_pass_51 H.1.2.1 rfl rfl rfl (Nat.le_of_ble_eq_true rfl) rfl rfl rfl (Nat.le_of_ble_eq_true rfl) (Nat.le_of_ble_eq_true rfl) ⟨(Nat.le_of_ble_eq_true rfl), (Nat.le_of_ble_eq_true rfl)⟩ rfl ?_
  refine ct_X3_note H.1.2.2.2 H.P (H.2.1.2.2.2 _ H.1.2.2.2) H.2.1.1 (by omega) ?_
  show WF _ E Po _ _ _ _ _ _ _
  have H1 := H.str (c := cpS (h.1 (3 + h.2.1.1)) (h.1 0)) H.1.2.2.2
  have f1 := (Fr.id (w := w) (x := x) (h := h)).sto (E := E) (c := cpS (h.1 (3 + h.2.1.1)) (h.1 0)) (b := x + 82 + 2 + 27 * h.2.1.1) (by omega) (by have := H.1.2.2.2; omega)
  have S0 : hasS E (sto E w (x + 82 + 2 + 27 * h.2.1.1) (cpS (h.1 (3 + h.2.1.1)) (h.1 0))) (x + 1) (h.1 0) := H.2.1.1.o (by omega)
  refine r_aload_n (q := 12) dX9_pass_11 rfl rfl rfl ?_
  refine r_aload_n (q := 13) dX9_pass_12 rfl rfl rfl ?_
  refine r_getfield (q := 16) dX9_pass_13 f_X9_pass_10 H1.1.1 rfl rfl ?_
  refine r_iload_n (q := 17) dX9_pass_16 rfl rfl rfl ?_
  refine r_callV (q := 20) (ci := 7) (As := [_]) dX9_pass_17 s_X9_pass_170 (S0 0 (by decide)) rfl rfl rfl (Nat.le_of_ble_eq_true rfl) rfl rfl rfl (Nat.le_of_ble_eq_true rfl) (Nat.le_of_ble_eq_true rfl) ⟨(Nat.le_of_ble_eq_true rfl), (Nat.le_of_ble_eq_true rfl)⟩ rfl ?_
  refine Ct.cw S0.eq.symm (ct_X5_letHoursGo hc ?_)
  show WF _ E Po _ _ _ _ _ _ _
  have H2 := H1.st0 (c := (passS (h.1 0) t).2)
  have f2 := f1.sto (E := E) (c := (passS (h.1 0) t).2) (b := x + 1) (by omega) (by omega)
  refine r_callV (q := 23) (ci := 11) (As := [_]) dX9_pass_20 s_X9_pass_59 H2.1.1 rfl rfl rfl (Nat.le_of_ble_eq_true rfl) rfl rfl rfl (Nat.le_of_ble_eq_true rfl) (Nat.le_of_ble_eq_true rfl) ⟨(Nat.le_of_ble_eq_true rfl), (Nat.le_of_ble_eq_true rfl)⟩ rfl ?_
  refine (ct_X9_settled (Po := xNext _ E Po _ _ _ _ _ _) H2 f2 ?_)
  unfold hS at hp ⊢
  split at hp
  · rename_i e; rw [if_pos e]; exact hp
  · rename_i e; rw [if_neg e]
    split at hp
    · rename_i e; rw [if_pos e]; exact hp
    · rename_i e; rw [if_neg e]
      split at hp
      · rename_i e; rw [if_pos e]; exact hp
      · rename_i e; rw [if_neg e]
        intro u Hu fu
        show WF _ E Po _ _ _ _ _ _ _
        exact r_iret dX9_pass_23 rfl (Nat.le_of_ble_eq_true rfl) (Nat.le_of_ble_eq_true rfl) (hp u Hu fu)
