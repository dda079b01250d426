/-! ===== 23.past: what can be undone (rows laid by wip/p39/gen/make23.py) ===== -/
theorem fm9z {i : Nat} (h : i < 9) : fmS (nI i) 9 = nI i := by
  rcases (show i = 0 ∨ i = 1 ∨ i = 2 ∨ i = 3 ∨ i = 4 ∨ i = 5 ∨ i = 6 ∨ i = 7 ∨ i = 8 by omega) with rfl | rfl | rfl | rfl | rfl | rfl | rfl | rfl | rfl <;> decide +kernel
theorem fm9s {i : Nat} (h : i < 9) : fmS (nI i + 1) 9 = nI ((i + 1) % 9) := by
  rcases (show i = 0 ∨ i = 1 ∨ i = 2 ∨ i = 3 ∨ i = 4 ∨ i = 5 ∨ i = 6 ∨ i = 7 ∨ i = 8 by omega) with rfl | rfl | rfl | rfl | rfl | rfl | rfl | rfl | rfl <;> decide +kernel
theorem fm9p {i : Nat} (h : i < 9) : fmS (nI i - 1) 9 = nI ((i + 8) % 9) := by
  rcases (show i = 0 ∨ i = 1 ∨ i = 2 ∨ i = 3 ∨ i = 4 ∨ i = 5 ∨ i = 6 ∨ i = 7 ∨ i = 8 by omega) with rfl | rfl | rfl | rfl | rfl | rfl | rfl | rfl | rfl <;> decide +kernel
theorem Ct.cw {M : xM} {E : xE} {As : List Value} {w w2 : xW} {Po : xPo} (h : w = w2) (k : Ct M E As w2 Po) : Ct M E As w Po := by
  subst h; exact k
/-- the past at b, at place i of its ring -/
def hasP (E : xE) (w : xW) (b : Nat) (i : Nat) (ct : Int32) : Prop := w.1 b = some (pasE (b + 1) (nI i) ct) ∧ w.1 (b + 1) = some (refE (E.1.2 5) 9 (b + 2) 27)
theorem hasS.set {E : xE} {w : xW} {a q : Nat} {d : xCo} {e : va_E} (h : hasS E w a d) (hq : q < a ∨ a + 27 ≤ q) : hasS E (xset w q e) a d := fun o ho => (xset_o (by omega)).trans (h o ho)
set_option maxRecDepth 100000 in
set_option maxHeartbeats 4000000 in
theorem ct_X3_note {E : xE} {Po : xPo} {w : xW} {a b i : Nat} {ct : Int32} {c d : xCo} (hi : i < 9) (hP : hasP E w b i ct) (hc : hasS E w (b + 2 + 27 * i) c) (hd : hasS E w a d) (hab : a + 27 ≤ b + 2 + 27 * i ∨ b + 2 + 27 * i + 27 ≤ a) (hp : Po (.inl none) (sto E w (b + 2 + 27 * i) (cpS c d))) : Ct M_X3_note E [.ref b, .ref a] w Po := by
  refine Ct.of (ws2 := xAll) (L := [some (.ref b), some (.ref a)]) (by decide +kernel) rfl rfl (List.forall_mem_cons.mpr ⟨rfl, List.forall_mem_cons.mpr ⟨rfl, fun _ h => absurd h List.not_mem_nil⟩⟩) (Nat.le_of_ble_eq_true rfl) rfl ?_
  refine r_aload_n (q := 1) dX3_note_0 rfl rfl rfl ?_
  refine r_getfield (q := 4) dX3_note_1 f_X3_note_11 hP.1 rfl rfl ?_
  refine r_aload_n (q := 5) dX3_note_4 rfl rfl rfl ?_
  refine r_getfield (q := 8) dX3_note_5 f_X3_note_15 hP.1 rfl rfl ?_
  refine r_bipush (q := 10) (v := 9) dX3_note_8 (by decide) rfl ?_
  refine r_callS (q := 13) (As := [_, _]) dX3_note_10 s_X3_note_23 rfl rfl (Nat.le_of_ble_eq_true rfl) rfl rfl rfl (Nat.le_of_ble_eq_true rfl) (Nat.le_of_ble_eq_true rfl) ⟨(Nat.le_of_ble_eq_true rfl), (Nat.le_of_ble_eq_true rfl)⟩ rfl ?_
  refine ct_J9_floorMod_7cf53 (by decide) ?_
  show WF _ E Po _ _ _ _ _ _ _
  rw [fm9z hi]
  refine r_aaload (q := 14) (t0 := 5) dX3_note_13 rfl hP.2 (vp_in_nI hi (by decide)) rfl ?_
  rw [nI_cl (by omega), rf_in hi]
  refine r_aload_n (q := 15) dX3_note_14 rfl rfl rfl ?_
  refine r_callV (q := 18) (ci := 7) (As := [_]) dX3_note_15 s_X3_note_29 (hc 0 (by decide)) rfl rfl rfl (Nat.le_of_ble_eq_true rfl) rfl rfl rfl (Nat.le_of_ble_eq_true rfl) (Nat.le_of_ble_eq_true rfl) ⟨(Nat.le_of_ble_eq_true rfl), (Nat.le_of_ble_eq_true rfl)⟩ rfl ?_
  refine Ct.cw hc.eq.symm (ct_X5_copyFrom hd hab ?_)
  show WF _ E Po _ _ _ _ _ _ _
  refine r_vret dX3_note_18 rfl (Nat.le_of_ble_eq_true rfl) (Nat.le_of_ble_eq_true rfl) ?_
  exact hp
set_option maxRecDepth 100000 in
set_option maxHeartbeats 4000000 in
theorem ct_X3_giveNoted {E : xE} {Po : xPo} {w : xW} {a b i : Nat} {ct : Int32} {c d : xCo} (hi : i < 9) (hP : hasP E w b i ct) (hd : hasS E w (b + 2 + 27 * i) d) (hc : hasS E w a c) (hab : b + 2 + 27 * i + 27 ≤ a ∨ a + 27 ≤ b + 2 + 27 * i) (hp : Po (.inl none) (sto E w a (cpS c d))) : Ct M_X3_giveNoted E [.ref b, .ref a] w Po := by
  refine Ct.of (ws2 := xAll) (L := [some (.ref b), some (.ref a)]) (by decide +kernel) rfl rfl (List.forall_mem_cons.mpr ⟨rfl, List.forall_mem_cons.mpr ⟨rfl, fun _ h => absurd h List.not_mem_nil⟩⟩) (Nat.le_of_ble_eq_true rfl) rfl ?_
  refine r_aload_n (q := 1) dX3_giveNoted_0 rfl rfl rfl ?_
  refine r_aload_n (q := 2) dX3_giveNoted_1 rfl rfl rfl ?_
  refine r_getfield (q := 5) dX3_giveNoted_2 f_X3_giveNoted_11 hP.1 rfl rfl ?_
  refine r_aload_n (q := 6) dX3_giveNoted_5 rfl rfl rfl ?_
  refine r_getfield (q := 9) dX3_giveNoted_6 f_X3_giveNoted_15 hP.1 rfl rfl ?_
  refine r_bipush (q := 11) (v := 9) dX3_giveNoted_9 (by decide) rfl ?_
  refine r_callS (q := 14) (As := [_, _]) dX3_giveNoted_11 s_X3_giveNoted_23 rfl rfl (Nat.le_of_ble_eq_true rfl) rfl rfl rfl (Nat.le_of_ble_eq_true rfl) (Nat.le_of_ble_eq_true rfl) ⟨(Nat.le_of_ble_eq_true rfl), (Nat.le_of_ble_eq_true rfl)⟩ rfl ?_
  refine ct_J9_floorMod_7cf53 (by decide) ?_
  show WF _ E Po _ _ _ _ _ _ _
  rw [fm9z hi]
  refine r_aaload (q := 15) (t0 := 5) dX3_giveNoted_14 rfl hP.2 (vp_in_nI hi (by decide)) rfl ?_
  rw [nI_cl (by omega), rf_in hi]
  refine r_callV (q := 18) (ci := 7) (As := [_]) dX3_giveNoted_15 s_X3_giveNoted_29 (hc 0 (by decide)) rfl rfl rfl (Nat.le_of_ble_eq_true rfl) rfl rfl rfl (Nat.le_of_ble_eq_true rfl) (Nat.le_of_ble_eq_true rfl) ⟨(Nat.le_of_ble_eq_true rfl), (Nat.le_of_ble_eq_true rfl)⟩ rfl ?_
  refine Ct.cw hc.eq.symm (ct_X5_copyFrom hd hab ?_)
  show WF _ E Po _ _ _ _ _ _ _
  refine r_vret dX3_giveNoted_18 rfl (Nat.le_of_ble_eq_true rfl) (Nat.le_of_ble_eq_true rfl) ?_
  exact hp
set_option maxRecDepth 100000 in
set_option maxHeartbeats 4000000 in
theorem ct_X3_keep {E : xE} {Po : xPo} {w : xW} {b i : Nat} {ct : Int32} (hi : i < 9) (hP : hasP E w b i ct) (hp : Po (.inl none) (xset w b (pasE (b + 1) (nI ((i + 1) % 9)) (if ct + 1 < 8 then ct + 1 else 8)))) : Ct M_X3_keep E [.ref b] w Po := by
  refine Ct.of (ws2 := xAll) (L := [some (.ref b)]) (by decide +kernel) rfl rfl (List.forall_mem_cons.mpr ⟨rfl, fun _ h => absurd h List.not_mem_nil⟩) (Nat.le_of_ble_eq_true rfl) rfl ?_
  refine r_aload_n (q := 1) dX3_keep_0 rfl rfl rfl ?_
  refine r_aload_n (q := 2) dX3_keep_1 rfl rfl rfl ?_
  refine r_getfield (q := 5) dX3_keep_2 f_X3_keep_15 hP.1 rfl rfl ?_
  refine r_iconst (q := 6) (v := 1) dX3_keep_5 rfl rfl ?_
  refine r_iadd (q := 7) dX3_keep_6 rfl ?_
  refine r_bipush (q := 9) (v := 9) dX3_keep_7 (by decide) rfl ?_
  refine r_callS (q := 12) (As := [_, _]) dX3_keep_9 s_X3_keep_23 rfl rfl (Nat.le_of_ble_eq_true rfl) rfl rfl rfl (Nat.le_of_ble_eq_true rfl) (Nat.le_of_ble_eq_true rfl) ⟨(Nat.le_of_ble_eq_true rfl), (Nat.le_of_ble_eq_true rfl)⟩ rfl ?_
  refine ct_J9_floorMod_7cf53 (by decide) ?_
  show WF _ E Po _ _ _ _ _ _ _
  rw [fm9s hi]
  refine r_putfield (q := 15) dX3_keep_12 f_X3_keep_15 hP.1 rfl rfl (Nat.le_of_ble_eq_true rfl) rfl ?_
  refine r_aload_n (q := 16) dX3_keep_15 rfl rfl rfl ?_
  refine r_bipush (q := 18) (v := 8) dX3_keep_16 (by decide) rfl ?_
  refine r_aload_n (q := 19) dX3_keep_18 rfl rfl rfl ?_
  refine r_getfield (q := 22) dX3_keep_19 f_X3_keep_19 xset_s rfl rfl ?_
  refine r_iconst (q := 23) (v := 1) dX3_keep_22 rfl rfl ?_
  refine r_iadd (q := 24) dX3_keep_23 rfl ?_
  refine r_mmin (q := 27) dX3_keep_24 p_X3_keep_33 (Nat.le_of_ble_eq_true rfl) rfl (Nat.le_of_ble_eq_true rfl) (Nat.le_of_ble_eq_true rfl) ?_
  refine r_putfield (q := 30) dX3_keep_27 f_X3_keep_19 xset_s rfl rfl (Nat.le_of_ble_eq_true rfl) rfl ?_
  rw [xset_xset]
  refine r_vret dX3_keep_30 rfl (Nat.le_of_ble_eq_true rfl) (Nat.le_of_ble_eq_true rfl) ?_
  exact hp
set_option maxRecDepth 100000 in
set_option maxHeartbeats 4000000 in
theorem ct_X3_giveLatest {E : xE} {Po : xPo} {w : xW} {a b i : Nat} {ct : Int32} {c d : xCo} (hi : i < 9) (hP : hasP E w b i ct) (hd : hasS E w (b + 2 + 27 * ((i + 8) % 9)) d) (hc : hasS E w a c) (hab : b + 247 ≤ a ∨ a + 27 ≤ b) (hp : Po (.inl none) (sto E (xset w b (pasE (b + 1) (nI ((i + 8) % 9)) (ct - 1))) a (cpS c d))) : Ct M_X3_giveLatest E [.ref b, .ref a] w Po := by
  refine Ct.of (ws2 := xAll) (L := [some (.ref b), some (.ref a)]) (by decide +kernel) rfl rfl (List.forall_mem_cons.mpr ⟨rfl, List.forall_mem_cons.mpr ⟨rfl, fun _ h => absurd h List.not_mem_nil⟩⟩) (Nat.le_of_ble_eq_true rfl) rfl ?_
  refine r_aload_n (q := 1) dX3_giveLatest_0 rfl rfl rfl ?_
  refine r_aload_n (q := 2) dX3_giveLatest_1 rfl rfl rfl ?_
  refine r_getfield (q := 5) dX3_giveLatest_2 f_X3_giveLatest_15 hP.1 rfl rfl ?_
  refine r_iconst (q := 6) (v := 1) dX3_giveLatest_5 rfl rfl ?_
  refine r_isub (q := 7) dX3_giveLatest_6 rfl ?_
  refine r_bipush (q := 9) (v := 9) dX3_giveLatest_7 (by decide) rfl ?_
  refine r_callS (q := 12) (As := [_, _]) dX3_giveLatest_9 s_X3_giveLatest_23 rfl rfl (Nat.le_of_ble_eq_true rfl) rfl rfl rfl (Nat.le_of_ble_eq_true rfl) (Nat.le_of_ble_eq_true rfl) ⟨(Nat.le_of_ble_eq_true rfl), (Nat.le_of_ble_eq_true rfl)⟩ rfl ?_
  refine ct_J9_floorMod_7cf53 (by decide) ?_
  show WF _ E Po _ _ _ _ _ _ _
  rw [fm9p hi]
  refine r_putfield (q := 15) dX3_giveLatest_12 f_X3_giveLatest_15 hP.1 rfl rfl (Nat.le_of_ble_eq_true rfl) rfl ?_
  refine r_aload_n (q := 16) dX3_giveLatest_15 rfl rfl rfl ?_
  refine r_dup (q := 17) dX3_giveLatest_16 rfl rfl ?_
  refine r_getfield (q := 20) dX3_giveLatest_17 f_X3_giveLatest_19 xset_s rfl rfl ?_
  refine r_iconst (q := 21) (v := 1) dX3_giveLatest_20 rfl rfl ?_
  refine r_isub (q := 22) dX3_giveLatest_21 rfl ?_
  refine r_putfield (q := 25) dX3_giveLatest_22 f_X3_giveLatest_19 xset_s rfl rfl (Nat.le_of_ble_eq_true rfl) rfl ?_
  rw [xset_xset]
  refine r_aload_n (q := 26) dX3_giveLatest_25 rfl rfl rfl ?_
  refine r_aload_n (q := 27) dX3_giveLatest_26 rfl rfl rfl ?_
  refine r_callV (q := 30) (ci := 5) (As := [_]) dX3_giveLatest_27 s_X3_giveLatest_36 xset_s rfl rfl rfl (Nat.le_of_ble_eq_true rfl) rfl rfl rfl (Nat.le_of_ble_eq_true rfl) (Nat.le_of_ble_eq_true rfl) ⟨(Nat.le_of_ble_eq_true rfl), (Nat.le_of_ble_eq_true rfl)⟩ rfl ?_
  refine ct_X3_giveNoted (Nat.mod_lt _ (by decide)) ⟨xset_s, (xset_o (by omega)).trans hP.2⟩ (hd.set (by omega)) (hc.set (by omega)) (by omega) ?_
  show WF _ E Po _ _ _ _ _ _ _
  refine r_vret dX3_giveLatest_30 rfl (Nat.le_of_ble_eq_true rfl) (Nat.le_of_ble_eq_true rfl) ?_
  exact hp
