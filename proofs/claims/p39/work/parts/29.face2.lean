/-! ===== 29.face2: undo, snapshots, towels (rows laid by wip/p39/gen/make29.py) ===== -/
def hSv (h : xHi) (sv kf : Int32) : xHi := (h.1, h.2.1, h.2.2.1, (sv, kf), h.2.2.2.2)
theorem HI.sv {E : xE} {w : xW} {x : Nat} {h : xHi} (H : HI E w x h) (sv kf : Int32) : HI E (xset w x (hirE x sv kf)) x (hSv h sv kf) := by
  obtain ⟨⟨a1, a2, a3, a4⟩, ⟨b1, b2, b3, b4⟩, ⟨c1, c2, c3⟩, d1, d2, d3, d4, d5⟩ := H
  exact ⟨⟨xset_s, (xset_o (by omega)).trans a2, (xset_o (by omega)).trans a3, a4⟩, ⟨b1.set (by omega), b2.set (by omega), b3.set (by omega), fun j hj => (b4 j hj).set (by omega)⟩, ⟨(xset_o (by omega)).trans c1, (xset_o (by omega)).trans c2, c3⟩, (xset_o (by omega)).trans d1, (show (xset w x _).1 h.2.2.2.2.1 = w.1 h.2.2.2.2.1 from xset_o (by omega)).trans d2, d3, d4, d5⟩
set_option maxRecDepth 100000 in
set_option maxHeartbeats 4000000 in
theorem ct_X9_towels {E : xE} {Po : xPo} {w : xW} {x : Nat} {h : xHi} (H : HI E w x h) (hp : Po (.inl (some (.int ((h.1 0).1 4 + (h.1 0).1 5 + ((h.1 0).1 8 - (h.1 0).1 9))))) w) : Ct M_X9_towels E [.ref x] w Po := by
  refine Ct.of (ws2 := xAll) (L := [some (.ref x)]) (by decide +kernel) rfl rfl (List.forall_mem_cons.mpr ⟨rfl, fun _ h => absurd h List.not_mem_nil⟩) (Nat.le_of_ble_eq_true rfl) rfl ?_
  refine r_aload_n (q := 1) dX9_towels_0 rfl rfl rfl ?_
  refine r_getfield (q := 4) dX9_towels_1 f_X9_towels_10 H.1.1 rfl rfl ?_
  refine r_getfield (q := 7) dX9_towels_4 f_X9_towels_238 (H.2.1.1 0 (by decide)) (by rfl) rfl ?_
  refine r_aload_n (q := 8) dX9_towels_7 rfl rfl rfl ?_
  refine r_getfield (q := 11) dX9_towels_8 f_X9_towels_10 H.1.1 rfl rfl ?_
  refine r_getfield (q := 14) dX9_towels_11 f_X9_towels_241 (H.2.1.1 0 (by decide)) (by rfl) rfl ?_
  refine r_iadd (q := 15) dX9_towels_14 rfl ?_
  refine r_aload_n (q := 16) dX9_towels_15 rfl rfl rfl ?_
  refine r_getfield (q := 19) dX9_towels_16 f_X9_towels_10 H.1.1 rfl rfl ?_
  refine r_getfield (q := 22) dX9_towels_19 f_X9_towels_244 (H.2.1.1 0 (by decide)) (by rfl) rfl ?_
  refine r_aload_n (q := 23) dX9_towels_22 rfl rfl rfl ?_
  refine r_getfield (q := 26) dX9_towels_23 f_X9_towels_10 H.1.1 rfl rfl ?_
  refine r_getfield (q := 29) dX9_towels_26 f_X9_towels_247 (H.2.1.1 0 (by decide)) (by rfl) rfl ?_
  refine r_isub (q := 30) dX9_towels_29 rfl ?_
  refine r_iadd (q := 31) dX9_towels_30 rfl ?_
  refine r_iret dX9_towels_31 rfl (Nat.le_of_ble_eq_true rfl) (Nat.le_of_ble_eq_true rfl) ?_
  exact hp
set_option maxRecDepth 100000 in
set_option maxHeartbeats 4000000 in
theorem ct_X9_undo {E : xE} {Po : xPo} {w : xW} {x : Nat} {h : xHi} (H : HI E w x h) (hp : if h.2.1.2 = 0 then ∀ u, HI E u x h → Fr w u x h → Po (.inr "java/lang/IllegalStateException") u else ∀ u, HI E u x (upS (h.1, (((h.2.1.1 + 8) % 9), h.2.1.2 - 1), h.2.2) 0 (cpS (h.1 0) (h.1 (3 + ((h.2.1.1 + 8) % 9))))) → Fr w u x h → Po (.inl (some (.int (h.2.1.2 - 1)))) u) : Ct M_X9_undo E [.ref x] w Po := by
  refine Ct.of (ws2 := xAll) (L := [some (.ref x)]) (by decide +kernel) rfl rfl (List.forall_mem_cons.mpr ⟨rfl, fun _ h => absurd h List.not_mem_nil⟩) (Nat.le_of_ble_eq_true rfl) rfl ?_
  refine r_aload_n (q := 1) dX9_undo_0 rfl rfl rfl ?_
  refine r_getfield (q := 4) dX9_undo_1 f_X9_undo_25 H.1.1 rfl rfl ?_
  refine r_getfield (q := 7) dX9_undo_4 f_X9_undo_232 H.1.2.1 rfl rfl ?_
  refine r_if_ne (q := 21) (q2 := 10) dX9_undo_7 (by decide) rfl (fun h7 => ?_) (fun h7 => ?_)
  · rw [if_neg h7] at hp
    refine r_aload_n (q := 22) dX9_undo_21 rfl rfl rfl ?_
    refine r_getfield (q := 25) dX9_undo_22 f_X9_undo_25 H.1.1 rfl rfl ?_
    refine r_aload_n (q := 26) dX9_undo_25 rfl rfl rfl ?_
    refine r_getfield (q := 29) dX9_undo_26 f_X9_undo_10 H.1.1 rfl rfl ?_
    refine r_callV (q := 32) (ci := 5) (As := [_]) dX9_undo_29 s_X9_undo_312 H.1.2.1 rfl rfl rfl (Nat.le_of_ble_eq_true rfl) rfl rfl rfl (Nat.le_of_ble_eq_true rfl) (Nat.le_of_ble_eq_true rfl) ⟨(Nat.le_of_ble_eq_true rfl), (Nat.le_of_ble_eq_true rfl)⟩ rfl ?_
    have hi8 : (h.2.1.1 + 8) % 9 < 9 := Nat.mod_lt _ (by decide)
    refine ct_X3_giveLatest H.1.2.2.2 H.P (H.2.1.2.2.2 _ hi8) H.2.1.1 (by omega) ?_
    show WF _ E Po _ _ _ _ _ _ _
    have H1 := (H.pas (ct := h.2.1.2 - 1) hi8).st0 (c := cpS (h.1 0) (h.1 (3 + (h.2.1.1 + 8) % 9)))
    refine r_aload_n (q := 33) dX9_undo_32 rfl rfl rfl ?_
    refine r_getfield (q := 36) dX9_undo_33 f_X9_undo_25 H1.1.1 rfl rfl ?_
    refine r_getfield (q := 39) dX9_undo_36 f_X9_undo_232 H1.1.2.1 rfl rfl ?_
    refine r_iret dX9_undo_39 rfl (Nat.le_of_ble_eq_true rfl) (Nat.le_of_ble_eq_true rfl) ?_
    exact hp _ H1 ((Fr.id.set (by omega) (by omega)).sto (by omega) (by omega))
  · rw [if_pos h7] at hp
    exact r_throwSW (i := 26) (by decide +kernel) th_nm (by decide) (fun _ h => List.mem_cons_of_mem _ h) th_IS tk_IS ti_IS rfl dX9_undo_10 dX9_undo_13 dX9_undo_14 dX9_undo_17 dX9_undo_20 rfl (Nat.le_of_ble_eq_true rfl) (Nat.le_of_ble_eq_true rfl) (Nat.le_of_ble_eq_true rfl) (Nat.le_of_ble_eq_true rfl) (Nat.le_of_ble_eq_true rfl) (Nat.le_of_ble_eq_true rfl) (fun z hz => hp _ (H.sz hz) (Fr.id.sz hz))
