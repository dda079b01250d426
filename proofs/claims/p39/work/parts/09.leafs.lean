/-! ===== 09.leafs: tubs, tents, heaters, refusals (rows laid by wip/p39/gen/leafs.py) ===== -/
def mn (x y : Int32) : Int32 := if y < x then y else x
def mx (x y : Int32) : Int32 := if x < y then y else x
def degS (z : Int32) : Int32 := if z ≤ 0 then 0 else 12 / z
def heatS (z x : Int32) : Int32 := mn 60 (x + degS z)
def bcS (x : Int32) : Int32 :=
  let a := x - ((x.toUInt32 >>> ((1 : Int32).toUInt32 &&& Int32.toUInt32 31)).toInt32 &&& 1431655765)
  let b := (a &&& 858993459) + ((a.toUInt32 >>> ((2 : Int32).toUInt32 &&& Int32.toUInt32 31)).toInt32 &&& 858993459)
  let d := (b + (b.toUInt32 >>> ((4 : Int32).toUInt32 &&& Int32.toUInt32 31)).toInt32) &&& 252645135
  let e := d + (d.toUInt32 >>> ((8 : Int32).toUInt32 &&& Int32.toUInt32 31)).toInt32
  let f := e + (e.toUInt32 >>> ((16 : Int32).toUInt32 &&& Int32.toUInt32 31)).toInt32
  f &&& 63
section XLDC
variable {M M2 : xM} {E : xE} {Po : xPo} {w0 w : xW} {pc q : Nat} {L : List (Option Value)} {st : List Value} {k n : Nat}
theorem r_ldcw {idx : Nat} {v : Int32} (hd : decode (mC M) pc = .ok (.ldc_w idx, 3)) (hc : Cond.constant (mY M).cls idx v ∈ mW M) (hq : pc + 3 = q) (kk : WF M E Po w0 q L (.int v :: st) w k n) : WF M E Po w0 pc L st w k n := by
  subst hq
  intro p l e s m args below meth c H locs ls C hP hs hS hl
  exact lv_ldcw C.1 C.2.1 C.2.2.2.2.2.1 (C.2.2.2.2.1 _ hc) hd (kk p l e s m args below meth c H locs ls C hP hs hS hl)
end XLDC
theorem k_bc_265 : Cond.constant "java/lang/Integer" 265 1431655765 ∈ mW M_J6_bitCount_0f7a4 := List.mem_cons_of_mem _ (xin3 (List.mem_of_getElem? (i := 133) (by decide +kernel)) (by decide +kernel))
theorem k_bc_266 : Cond.constant "java/lang/Integer" 266 858993459 ∈ mW M_J6_bitCount_0f7a4 := List.mem_cons_of_mem _ (xin3 (List.mem_of_getElem? (i := 134) (by decide +kernel)) (by decide +kernel))
theorem k_bc_267 : Cond.constant "java/lang/Integer" 267 252645135 ∈ mW M_J6_bitCount_0f7a4 := List.mem_cons_of_mem _ (xin3 (List.mem_of_getElem? (i := 135) (by decide +kernel)) (by decide +kernel))
set_option maxRecDepth 100000 in
set_option maxHeartbeats 4000000 in
theorem ct_J6_bitCount_0f7a4 {E : xE} {Po : xPo} {w : xW} {x : Int32} (hp : Po (.inl (some (.int (bcS x)))) w) : Ct M_J6_bitCount_0f7a4 E [.int x] w Po := by
  refine Ct.of (ws2 := xAll) (L := [some (.int x)]) (by decide +kernel) rfl rfl (List.forall_mem_cons.mpr ⟨rfl, fun _ h => absurd h List.not_mem_nil⟩) (Nat.le_of_ble_eq_true rfl) rfl ?_
  refine r_iload_n (q := 1) dJ6_bitCount_0f7a4_0 rfl rfl rfl ?_
  refine r_iload_n (q := 2) dJ6_bitCount_0f7a4_1 rfl rfl rfl ?_
  refine r_iconst (q := 3) (v := 1) dJ6_bitCount_0f7a4_2 rfl rfl ?_
  refine r_iushr (q := 4) dJ6_bitCount_0f7a4_3 rfl ?_
  refine r_ldcw dJ6_bitCount_0f7a4_4 k_bc_265 rfl ?_
  refine r_iand (q := 8) dJ6_bitCount_0f7a4_7 rfl ?_
  refine r_isub (q := 9) dJ6_bitCount_0f7a4_8 rfl ?_
  refine r_istore_n (q := 10) dJ6_bitCount_0f7a4_9 rfl (Nat.le_of_ble_eq_true rfl) (xone_of rfl) rfl ?_
  refine r_iload_n (q := 11) dJ6_bitCount_0f7a4_10 rfl rfl rfl ?_
  refine r_ldcw dJ6_bitCount_0f7a4_11 k_bc_266 rfl ?_
  refine r_iand (q := 15) dJ6_bitCount_0f7a4_14 rfl ?_
  refine r_iload_n (q := 16) dJ6_bitCount_0f7a4_15 rfl rfl rfl ?_
  refine r_iconst (q := 17) (v := 2) dJ6_bitCount_0f7a4_16 rfl rfl ?_
  refine r_iushr (q := 18) dJ6_bitCount_0f7a4_17 rfl ?_
  refine r_ldcw dJ6_bitCount_0f7a4_18 k_bc_266 rfl ?_
  refine r_iand (q := 22) dJ6_bitCount_0f7a4_21 rfl ?_
  refine r_iadd (q := 23) dJ6_bitCount_0f7a4_22 rfl ?_
  refine r_istore_n (q := 24) dJ6_bitCount_0f7a4_23 rfl (Nat.le_of_ble_eq_true rfl) (xone_of rfl) rfl ?_
  refine r_iload_n (q := 25) dJ6_bitCount_0f7a4_24 rfl rfl rfl ?_
  refine r_iload_n (q := 26) dJ6_bitCount_0f7a4_25 rfl rfl rfl ?_
  refine r_iconst (q := 27) (v := 4) dJ6_bitCount_0f7a4_26 rfl rfl ?_
  refine r_iushr (q := 28) dJ6_bitCount_0f7a4_27 rfl ?_
  refine r_iadd (q := 29) dJ6_bitCount_0f7a4_28 rfl ?_
  refine r_ldcw dJ6_bitCount_0f7a4_29 k_bc_267 rfl ?_
  refine r_iand (q := 33) dJ6_bitCount_0f7a4_32 rfl ?_
  refine r_istore_n (q := 34) dJ6_bitCount_0f7a4_33 rfl (Nat.le_of_ble_eq_true rfl) (xone_of rfl) rfl ?_
  refine r_iload_n (q := 35) dJ6_bitCount_0f7a4_34 rfl rfl rfl ?_
  refine r_iload_n (q := 36) dJ6_bitCount_0f7a4_35 rfl rfl rfl ?_
  refine r_bipush (q := 38) (v := 8) dJ6_bitCount_0f7a4_36 (by decide) rfl ?_
  refine r_iushr (q := 39) dJ6_bitCount_0f7a4_38 rfl ?_
  refine r_iadd (q := 40) dJ6_bitCount_0f7a4_39 rfl ?_
  refine r_istore_n (q := 41) dJ6_bitCount_0f7a4_40 rfl (Nat.le_of_ble_eq_true rfl) (xone_of rfl) rfl ?_
  refine r_iload_n (q := 42) dJ6_bitCount_0f7a4_41 rfl rfl rfl ?_
  refine r_iload_n (q := 43) dJ6_bitCount_0f7a4_42 rfl rfl rfl ?_
  refine r_bipush (q := 45) (v := 16) dJ6_bitCount_0f7a4_43 (by decide) rfl ?_
  refine r_iushr (q := 46) dJ6_bitCount_0f7a4_45 rfl ?_
  refine r_iadd (q := 47) dJ6_bitCount_0f7a4_46 rfl ?_
  refine r_istore_n (q := 48) dJ6_bitCount_0f7a4_47 rfl (Nat.le_of_ble_eq_true rfl) (xone_of rfl) rfl ?_
  refine r_iload_n (q := 49) dJ6_bitCount_0f7a4_48 rfl rfl rfl ?_
  refine r_bipush (q := 51) (v := 63) dJ6_bitCount_0f7a4_49 (by decide) rfl ?_
  refine r_iand (q := 52) dJ6_bitCount_0f7a4_51 rfl ?_
  refine r_iret dJ6_bitCount_0f7a4_52 rfl (Nat.le_of_ble_eq_true rfl) (Nat.le_of_ble_eq_true rfl) ?_
  exact hp
def fmS (x y : Int32) : Int32 := if x ^^^ y < 0 ∧ ¬ (x - x / y * y = 0) then x - x / y * y + y else x - x / y * y
set_option maxRecDepth 100000 in
set_option maxHeartbeats 4000000 in
theorem ct_J9_floorMod_7cf53 {E : xE} {Po : xPo} {w : xW} {x y : Int32} (hy : ¬ y = 0) (hp : Po (.inl (some (.int (fmS x y)))) w) : Ct M_J9_floorMod_7cf53 E [.int x, .int y] w Po := by
  refine Ct.of (ws2 := xAll) (L := [some (.int x), some (.int y), none]) (by decide +kernel) rfl rfl (List.forall_mem_cons.mpr ⟨rfl, List.forall_mem_cons.mpr ⟨rfl, fun _ h => absurd h List.not_mem_nil⟩⟩) (Nat.le_of_ble_eq_true rfl) rfl ?_
  refine r_iload_n (q := 1) dJ9_floorMod_7cf53_0 rfl rfl rfl ?_
  refine r_iload_n (q := 2) dJ9_floorMod_7cf53_1 rfl rfl rfl ?_
  refine r_irem (q := 3) dJ9_floorMod_7cf53_2 hy rfl ?_
  refine r_istore_n (q := 4) dJ9_floorMod_7cf53_3 rfl (Nat.le_of_ble_eq_true rfl) (xone_of rfl) rfl ?_
  refine r_iload_n (q := 5) dJ9_floorMod_7cf53_4 rfl rfl rfl ?_
  refine r_iload_n (q := 6) dJ9_floorMod_7cf53_5 rfl rfl rfl ?_
  refine r_ixor (q := 7) dJ9_floorMod_7cf53_6 rfl ?_
  refine r_if_ge (q := 18) (q2 := 10) dJ9_floorMod_7cf53_7 (by decide) rfl (fun h7 => ?_) (fun h7 => ?_)
  · refine r_iload_n (q := 19) dJ9_floorMod_7cf53_18 rfl rfl rfl ?_
    refine r_iret dJ9_floorMod_7cf53_19 rfl (Nat.le_of_ble_eq_true rfl) (Nat.le_of_ble_eq_true rfl) ?_
    unfold fmS at hp
    first | (rw [if_pos ⟨Int32.not_le.mp h7, h11⟩] at hp; exact hp) | (rw [if_neg (fun z => Int32.not_le.mpr z.1 h7)] at hp; exact hp) | (rw [if_neg (fun z => z.2 h11)] at hp; exact hp)
  · refine r_iload_n (q := 11) dJ9_floorMod_7cf53_10 rfl rfl rfl ?_
    refine r_if_eq (q := 18) (q2 := 14) dJ9_floorMod_7cf53_11 (by decide) rfl (fun h11 => ?_) (fun h11 => ?_)
    · refine r_iload_n (q := 19) dJ9_floorMod_7cf53_18 rfl rfl rfl ?_
      refine r_iret dJ9_floorMod_7cf53_19 rfl (Nat.le_of_ble_eq_true rfl) (Nat.le_of_ble_eq_true rfl) ?_
      unfold fmS at hp
      first | (rw [if_pos ⟨Int32.not_le.mp h7, h11⟩] at hp; exact hp) | (rw [if_neg (fun z => Int32.not_le.mpr z.1 h7)] at hp; exact hp) | (rw [if_neg (fun z => z.2 h11)] at hp; exact hp)
    · refine r_iload_n (q := 15) dJ9_floorMod_7cf53_14 rfl rfl rfl ?_
      refine r_iload_n (q := 16) dJ9_floorMod_7cf53_15 rfl rfl rfl ?_
      refine r_iadd (q := 17) dJ9_floorMod_7cf53_16 rfl ?_
      refine r_iret dJ9_floorMod_7cf53_17 rfl (Nat.le_of_ble_eq_true rfl) (Nat.le_of_ble_eq_true rfl) ?_
      unfold fmS at hp
      first | (rw [if_pos ⟨Int32.not_le.mp h7, h11⟩] at hp; exact hp) | (rw [if_neg (fun z => Int32.not_le.mpr z.1 h7)] at hp; exact hp) | (rw [if_neg (fun z => z.2 h11)] at hp; exact hp)
set_option maxRecDepth 100000 in
set_option maxHeartbeats 4000000 in
theorem ct_X8_hasSize {E : xE} {Po : xPo} {w : xW} {z : Int32} (hp : Po (.inl (some (.int (if z < 1 ∨ 3 < z then 0 else 1)))) w) : Ct M_X8_hasSize E [.int z] w Po := by
  refine Ct.of (ws2 := xAll) (L := [some (.int z)]) (by decide +kernel) rfl rfl (List.forall_mem_cons.mpr ⟨rfl, fun _ h => absurd h List.not_mem_nil⟩) (Nat.le_of_ble_eq_true rfl) rfl ?_
  refine r_iload_n (q := 1) dX8_hasSize_0 rfl rfl rfl ?_
  refine r_iconst (q := 2) (v := 1) dX8_hasSize_1 rfl rfl ?_
  refine r_icmp_lt (q := 14) (q2 := 5) dX8_hasSize_2 (by decide) rfl (fun h2 => ?_) (fun h2 => ?_)
  · refine r_iconst (q := 15) (v := 0) dX8_hasSize_14 rfl rfl ?_
    refine r_zret dX8_hasSize_15 rfl (by decide) (Nat.le_of_ble_eq_true rfl) (Nat.le_of_ble_eq_true rfl) ?_
    simpa [*] using hp
  · refine r_iload_n (q := 6) dX8_hasSize_5 rfl rfl rfl ?_
    refine r_iconst (q := 7) (v := 3) dX8_hasSize_6 rfl rfl ?_
    refine r_icmp_gt (q := 14) (q2 := 10) dX8_hasSize_7 (by decide) rfl (fun h7 => ?_) (fun h7 => ?_)
    · refine r_iconst (q := 15) (v := 0) dX8_hasSize_14 rfl rfl ?_
      refine r_zret dX8_hasSize_15 rfl (by decide) (Nat.le_of_ble_eq_true rfl) (Nat.le_of_ble_eq_true rfl) ?_
      simpa [*] using hp
    · refine r_iconst (q := 11) (v := 1) dX8_hasSize_10 rfl rfl ?_
      refine r_goto (q := 15) dX8_hasSize_11 (by decide) ?_
      refine r_zret dX8_hasSize_15 rfl (by decide) (Nat.le_of_ble_eq_true rfl) (Nat.le_of_ble_eq_true rfl) ?_
      simpa [*] using hp
set_option maxRecDepth 100000 in
set_option maxHeartbeats 4000000 in
theorem ct_X8_hasSeam {E : xE} {Po : xPo} {w : xW} {z : Int32} (hp : Po (.inl (some (.int (if z < 0 ∨ 8 ≤ z then 0 else 1)))) w) : Ct M_X8_hasSeam E [.int z] w Po := by
  refine Ct.of (ws2 := xAll) (L := [some (.int z)]) (by decide +kernel) rfl rfl (List.forall_mem_cons.mpr ⟨rfl, fun _ h => absurd h List.not_mem_nil⟩) (Nat.le_of_ble_eq_true rfl) rfl ?_
  refine r_iload_n (q := 1) dX8_hasSeam_0 rfl rfl rfl ?_
  refine r_if_lt (q := 14) (q2 := 4) dX8_hasSeam_1 (by decide) rfl (fun h1 => ?_) (fun h1 => ?_)
  · refine r_iconst (q := 15) (v := 0) dX8_hasSeam_14 rfl rfl ?_
    refine r_zret dX8_hasSeam_15 rfl (by decide) (Nat.le_of_ble_eq_true rfl) (Nat.le_of_ble_eq_true rfl) ?_
    simpa [*] using hp
  · refine r_iload_n (q := 5) dX8_hasSeam_4 rfl rfl rfl ?_
    refine r_bipush (q := 7) (v := 8) dX8_hasSeam_5 (by decide) rfl ?_
    refine r_icmp_ge (q := 14) (q2 := 10) dX8_hasSeam_7 (by decide) rfl (fun h7 => ?_) (fun h7 => ?_)
    · refine r_iconst (q := 15) (v := 0) dX8_hasSeam_14 rfl rfl ?_
      refine r_zret dX8_hasSeam_15 rfl (by decide) (Nat.le_of_ble_eq_true rfl) (Nat.le_of_ble_eq_true rfl) ?_
      simpa [*] using hp
    · refine r_iconst (q := 11) (v := 1) dX8_hasSeam_10 rfl rfl ?_
      refine r_goto (q := 15) dX8_hasSeam_11 (by decide) ?_
      refine r_zret dX8_hasSeam_15 rfl (by decide) (Nat.le_of_ble_eq_true rfl) (Nat.le_of_ble_eq_true rfl) ?_
      simpa [*] using hp
set_option maxRecDepth 100000 in
set_option maxHeartbeats 4000000 in
theorem ct_X8_degreesAnHour {E : xE} {Po : xPo} {w : xW} {z : Int32} (hp : Po (.inl (some (.int (degS z)))) w) : Ct M_X8_degreesAnHour E [.int z] w Po := by
  refine Ct.of (ws2 := xAll) (L := [some (.int z)]) (by decide +kernel) rfl rfl (List.forall_mem_cons.mpr ⟨rfl, fun _ h => absurd h List.not_mem_nil⟩) (Nat.le_of_ble_eq_true rfl) rfl ?_
  refine r_iload_n (q := 1) dX8_degreesAnHour_0 rfl rfl rfl ?_
  refine r_if_le (q := 11) (q2 := 4) dX8_degreesAnHour_1 (by decide) rfl (fun h1 => ?_) (fun h1 => ?_)
  · refine r_iconst (q := 12) (v := 0) dX8_degreesAnHour_11 rfl rfl ?_
    refine r_iret dX8_degreesAnHour_12 rfl (Nat.le_of_ble_eq_true rfl) (Nat.le_of_ble_eq_true rfl) ?_
    simpa [degS, *] using hp
  · refine r_bipush (q := 6) (v := 12) dX8_degreesAnHour_4 (by decide) rfl ?_
    refine r_iload_n (q := 7) dX8_degreesAnHour_6 rfl rfl rfl ?_
    refine r_idiv (q := 8) dX8_degreesAnHour_7 (fun e => h1 (by rw [e]; decide)) rfl ?_
    refine r_goto (q := 12) dX8_degreesAnHour_8 (by decide) ?_
    refine r_iret dX8_degreesAnHour_12 rfl (Nat.le_of_ble_eq_true rfl) (Nat.le_of_ble_eq_true rfl) ?_
    simpa [degS, *] using hp
set_option maxRecDepth 100000 in
set_option maxHeartbeats 4000000 in
theorem ct_X8_heated {E : xE} {Po : xPo} {w : xW} {z x : Int32} (hp : Po (.inl (some (.int (heatS z x)))) w) : Ct M_X8_heated E [.int z, .int x] w Po := by
  refine Ct.of (ws2 := xAll) (L := [some (.int z), some (.int x)]) (by decide +kernel) rfl rfl (List.forall_mem_cons.mpr ⟨rfl, List.forall_mem_cons.mpr ⟨rfl, fun _ h => absurd h List.not_mem_nil⟩⟩) (Nat.le_of_ble_eq_true rfl) rfl ?_
  refine r_bipush (q := 2) (v := 60) dX8_heated_0 (by decide) rfl ?_
  refine r_iload_n (q := 3) dX8_heated_2 rfl rfl rfl ?_
  refine r_iload_n (q := 4) dX8_heated_3 rfl rfl rfl ?_
  refine r_callS (q := 7) (As := [_]) dX8_heated_4 s_X8_heated_32 rfl rfl (Nat.le_of_ble_eq_true rfl) rfl rfl rfl (Nat.le_of_ble_eq_true rfl) (Nat.le_of_ble_eq_true rfl) ⟨(Nat.le_of_ble_eq_true rfl), (Nat.le_of_ble_eq_true rfl)⟩ rfl ?_
  refine ct_X8_degreesAnHour ?_
  refine r_iadd (q := 8) dX8_heated_7 rfl ?_
  refine r_mmin (q := 11) dX8_heated_8 p_X8_heated_36 (Nat.le_of_ble_eq_true rfl) rfl (Nat.le_of_ble_eq_true rfl) (Nat.le_of_ble_eq_true rfl) ?_
  refine r_iret dX8_heated_11 rfl (Nat.le_of_ble_eq_true rfl) (Nat.le_of_ble_eq_true rfl) ?_
  exact hp
set_option maxRecDepth 100000 in
set_option maxHeartbeats 4000000 in
theorem ct_X8_isTorn {E : xE} {Po : xPo} {w : xW} {a : Nat} {f : Nat → Int32} (hw : w.1 a = some (tubE f)) {s : Int32} (hp : Po (.inl (some (.int (if f 2 >>> (s &&& 31) &&& 1 = 0 then 0 else 1)))) w) : Ct M_X8_isTorn E [.ref a, .int s] w Po := by
  refine Ct.of (ws2 := xAll) (L := [some (.ref a), some (.int s)]) (by decide +kernel) rfl rfl (List.forall_mem_cons.mpr ⟨rfl, List.forall_mem_cons.mpr ⟨rfl, fun _ h => absurd h List.not_mem_nil⟩⟩) (Nat.le_of_ble_eq_true rfl) rfl ?_
  refine r_aload_n (q := 1) dX8_isTorn_0 rfl rfl rfl ?_
  refine r_getfield (q := 4) dX8_isTorn_1 f_X8_isTorn_16 hw rfl rfl ?_
  refine r_iload_n (q := 5) dX8_isTorn_4 rfl rfl rfl ?_
  refine r_ishr (q := 6) dX8_isTorn_5 rfl ?_
  refine r_iconst (q := 7) (v := 1) dX8_isTorn_6 rfl rfl ?_
  refine r_iand (q := 8) dX8_isTorn_7 rfl ?_
  refine r_if_eq (q := 15) (q2 := 11) dX8_isTorn_8 (by decide) rfl (fun h8 => ?_) (fun h8 => ?_)
  · refine r_iconst (q := 16) (v := 0) dX8_isTorn_15 rfl rfl ?_
    refine r_zret dX8_isTorn_16 rfl (by decide) (Nat.le_of_ble_eq_true rfl) (Nat.le_of_ble_eq_true rfl) ?_
    simpa [*] using hp
  · refine r_iconst (q := 12) (v := 1) dX8_isTorn_11 rfl rfl ?_
    refine r_goto (q := 16) dX8_isTorn_12 (by decide) ?_
    refine r_zret dX8_isTorn_16 rfl (by decide) (Nat.le_of_ble_eq_true rfl) (Nat.le_of_ble_eq_true rfl) ?_
    simpa [*] using hp
set_option maxRecDepth 100000 in
set_option maxHeartbeats 4000000 in
theorem ct_X8_tornSeams {E : xE} {Po : xPo} {w : xW} {a : Nat} {f : Nat → Int32} (hw : w.1 a = some (tubE f)) (hp : Po (.inl (some (.int (bcS (f 2))))) w) : Ct M_X8_tornSeams E [.ref a] w Po := by
  refine Ct.of (ws2 := xAll) (L := [some (.ref a)]) (by decide +kernel) rfl rfl (List.forall_mem_cons.mpr ⟨rfl, fun _ h => absurd h List.not_mem_nil⟩) (Nat.le_of_ble_eq_true rfl) rfl ?_
  refine r_aload_n (q := 1) dX8_tornSeams_0 rfl rfl rfl ?_
  refine r_getfield (q := 4) dX8_tornSeams_1 f_X8_tornSeams_16 hw rfl rfl ?_
  refine r_callS (q := 7) (As := [_]) dX8_tornSeams_4 s_X8_tornSeams_46 rfl rfl (Nat.le_of_ble_eq_true rfl) rfl rfl rfl (Nat.le_of_ble_eq_true rfl) (Nat.le_of_ble_eq_true rfl) ⟨(Nat.le_of_ble_eq_true rfl), (Nat.le_of_ble_eq_true rfl)⟩ rfl ?_
  refine ct_J6_bitCount_0f7a4 ?_
  refine r_iret dX8_tornSeams_7 rfl (Nat.le_of_ble_eq_true rfl) (Nat.le_of_ble_eq_true rfl) ?_
  exact hp
set_option maxRecDepth 100000 in
set_option maxHeartbeats 4000000 in
theorem ct_X8_fullLitres {E : xE} {Po : xPo} {w : xW} {a : Nat} {f : Nat → Int32} (hw : w.1 a = some (tubE f)) (hp : Po (.inl (some (.int (100 * f 0)))) w) : Ct M_X8_fullLitres E [.ref a] w Po := by
  refine Ct.of (ws2 := xAll) (L := [some (.ref a)]) (by decide +kernel) rfl rfl (List.forall_mem_cons.mpr ⟨rfl, fun _ h => absurd h List.not_mem_nil⟩) (Nat.le_of_ble_eq_true rfl) rfl ?_
  refine r_bipush (q := 2) (v := 100) dX8_fullLitres_0 (by decide) rfl ?_
  refine r_aload_n (q := 3) dX8_fullLitres_2 rfl rfl rfl ?_
  refine r_getfield (q := 6) dX8_fullLitres_3 f_X8_fullLitres_7 hw rfl rfl ?_
  refine r_imul (q := 7) dX8_fullLitres_6 rfl ?_
  refine r_iret dX8_fullLitres_7 rfl (Nat.le_of_ble_eq_true rfl) (Nat.le_of_ble_eq_true rfl) ?_
  exact hp
set_option maxRecDepth 100000 in
set_option maxHeartbeats 4000000 in
theorem ct_X8_lose {E : xE} {Po : xPo} {w : xW} {a : Nat} {f : Nat → Int32} (hw : w.1 a = some (tubE f)) {x : Int32} (hp : Po (.inl none) (xset w a (tubE (upd f 3 (mx 0 (f 3 - x)))))) : Ct M_X8_lose E [.ref a, .int x] w Po := by
  refine Ct.of (ws2 := xAll) (L := [some (.ref a), some (.int x)]) (by decide +kernel) rfl rfl (List.forall_mem_cons.mpr ⟨rfl, List.forall_mem_cons.mpr ⟨rfl, fun _ h => absurd h List.not_mem_nil⟩⟩) (Nat.le_of_ble_eq_true rfl) rfl ?_
  refine r_aload_n (q := 1) dX8_lose_0 rfl rfl rfl ?_
  refine r_iconst (q := 2) (v := 0) dX8_lose_1 rfl rfl ?_
  refine r_aload_n (q := 3) dX8_lose_2 rfl rfl rfl ?_
  refine r_getfield (q := 6) dX8_lose_3 f_X8_lose_19 hw rfl rfl ?_
  refine r_iload_n (q := 7) dX8_lose_6 rfl rfl rfl ?_
  refine r_isub (q := 8) dX8_lose_7 rfl ?_
  refine r_mmax (q := 11) dX8_lose_8 p_X8_lose_51 (Nat.le_of_ble_eq_true rfl) rfl (Nat.le_of_ble_eq_true rfl) (Nat.le_of_ble_eq_true rfl) ?_
  refine r_putfield (q := 14) dX8_lose_11 f_X8_lose_19 hw rfl rfl (Nat.le_of_ble_eq_true rfl) rfl ?_
  refine r_vret dX8_lose_14 rfl (Nat.le_of_ble_eq_true rfl) (Nat.le_of_ble_eq_true rfl) ?_
  exact hp
set_option maxRecDepth 100000 in
set_option maxHeartbeats 4000000 in
theorem ct_X8_drain {E : xE} {Po : xPo} {w : xW} {a : Nat} {f : Nat → Int32} (hw : w.1 a = some (tubE f)) {x : Int32} (hp : Po (.inl none) (xset w a (tubE (if mx 0 (f 3 - x) = 0 then upd (upd f 3 (mx 0 (f 3 - x))) 5 0 else upd f 3 (mx 0 (f 3 - x)))))) : Ct M_X8_drain E [.ref a, .int x] w Po := by
  refine Ct.of (ws2 := xAll) (L := [some (.ref a), some (.int x)]) (by decide +kernel) rfl rfl (List.forall_mem_cons.mpr ⟨rfl, List.forall_mem_cons.mpr ⟨rfl, fun _ h => absurd h List.not_mem_nil⟩⟩) (Nat.le_of_ble_eq_true rfl) rfl ?_
  refine r_aload_n (q := 1) dX8_drain_0 rfl rfl rfl ?_
  refine r_iload_n (q := 2) dX8_drain_1 rfl rfl rfl ?_
  refine r_callV (q := 5) (ci := 10) (As := [_]) dX8_drain_2 s_X8_drain_54 hw rfl rfl rfl (Nat.le_of_ble_eq_true rfl) rfl rfl rfl (Nat.le_of_ble_eq_true rfl) (Nat.le_of_ble_eq_true rfl) ⟨(Nat.le_of_ble_eq_true rfl), (Nat.le_of_ble_eq_true rfl)⟩ rfl ?_
  refine ct_X8_lose hw ?_
  refine r_aload_n (q := 6) dX8_drain_5 rfl rfl rfl ?_
  refine r_getfield (q := 9) dX8_drain_6 f_X8_drain_19 xset_s rfl rfl ?_
  refine r_if_ne (q := 17) (q2 := 12) dX8_drain_9 (by decide) rfl (fun h9 => ?_) (fun h9 => ?_)
  · refine r_vret dX8_drain_17 rfl (Nat.le_of_ble_eq_true rfl) (Nat.le_of_ble_eq_true rfl) ?_
    rw [upd_s] at h9
    first | (rw [if_neg h9] at hp; exact hp) | (rw [if_pos h9] at hp; rw [xset_xset]; exact hp)
  · refine r_aload_n (q := 13) dX8_drain_12 rfl rfl rfl ?_
    refine r_iconst (q := 14) (v := 0) dX8_drain_13 rfl rfl ?_
    refine r_putfield (q := 17) dX8_drain_14 f_X8_drain_25 xset_s rfl rfl (Nat.le_of_ble_eq_true rfl) rfl ?_
    refine r_vret dX8_drain_17 rfl (Nat.le_of_ble_eq_true rfl) (Nat.le_of_ble_eq_true rfl) ?_
    rw [upd_s] at h9
    first | (rw [if_neg h9] at hp; exact hp) | (rw [if_pos h9] at hp; rw [xset_xset]; exact hp)
set_option maxRecDepth 100000 in
set_option maxHeartbeats 4000000 in
theorem ct_X8_fill {E : xE} {Po : xPo} {w : xW} {a : Nat} {f : Nat → Int32} (hw : w.1 a = some (tubE f)) (hp : Po (.inl none) (xset w a (tubE (upd (upd f 4 (if f 3 = 0 then 10 else mx 10 (f 4 - 5))) 3 (100 * f 0))))) : Ct M_X8_fill E [.ref a] w Po := by
  refine Ct.of (ws2 := xAll) (L := [some (.ref a)]) (by decide +kernel) rfl rfl (List.forall_mem_cons.mpr ⟨rfl, fun _ h => absurd h List.not_mem_nil⟩) (Nat.le_of_ble_eq_true rfl) rfl ?_
  refine r_aload_n (q := 1) dX8_fill_0 rfl rfl rfl ?_
  refine r_aload_n (q := 2) dX8_fill_1 rfl rfl rfl ?_
  refine r_getfield (q := 5) dX8_fill_2 f_X8_fill_19 hw rfl rfl ?_
  refine r_if_ne (q := 13) (q2 := 8) dX8_fill_5 (by decide) rfl (fun h5 => ?_) (fun h5 => ?_)
  · refine r_bipush (q := 15) (v := 10) dX8_fill_13 (by decide) rfl ?_
    refine r_aload_n (q := 16) dX8_fill_15 rfl rfl rfl ?_
    refine r_getfield (q := 19) dX8_fill_16 f_X8_fill_22 hw rfl rfl ?_
    refine r_iconst (q := 20) (v := 5) dX8_fill_19 rfl rfl ?_
    refine r_isub (q := 21) dX8_fill_20 rfl ?_
    refine r_mmax (q := 24) dX8_fill_21 p_X8_fill_51 (Nat.le_of_ble_eq_true rfl) rfl (Nat.le_of_ble_eq_true rfl) (Nat.le_of_ble_eq_true rfl) ?_
    refine r_putfield (q := 27) dX8_fill_24 f_X8_fill_22 hw rfl rfl (Nat.le_of_ble_eq_true rfl) rfl ?_
    refine r_aload_n (q := 28) dX8_fill_27 rfl rfl rfl ?_
    refine r_aload_n (q := 29) dX8_fill_28 rfl rfl rfl ?_
    refine r_callV (q := 32) (ci := 10) (As := []) dX8_fill_29 s_X8_fill_58 xset_s rfl rfl rfl (Nat.le_of_ble_eq_true rfl) rfl rfl rfl (Nat.le_of_ble_eq_true rfl) (Nat.le_of_ble_eq_true rfl) ⟨(Nat.le_of_ble_eq_true rfl), (Nat.le_of_ble_eq_true rfl)⟩ rfl ?_
    refine ct_X8_fullLitres (f := upd f 4 (if f 3 = 0 then 10 else mx 10 (f 4 - 5))) (by first | (rw [if_pos h5]; exact xset_s) | (rw [if_neg h5]; exact xset_s)) ?_
    refine r_putfield (q := 35) dX8_fill_32 f_X8_fill_19 xset_s rfl rfl (Nat.le_of_ble_eq_true rfl) rfl ?_
    refine r_vret dX8_fill_35 rfl (Nat.le_of_ble_eq_true rfl) (Nat.le_of_ble_eq_true rfl) ?_
    first | (rw [if_neg h5] at hp; rw [xset_xset]; exact hp) | (rw [if_pos h5] at hp; rw [xset_xset]; exact hp)
  · refine r_bipush (q := 10) (v := 10) dX8_fill_8 (by decide) rfl ?_
    refine r_goto (q := 24) dX8_fill_10 (by decide) ?_
    refine r_putfield (q := 27) dX8_fill_24 f_X8_fill_22 hw rfl rfl (Nat.le_of_ble_eq_true rfl) rfl ?_
    refine r_aload_n (q := 28) dX8_fill_27 rfl rfl rfl ?_
    refine r_aload_n (q := 29) dX8_fill_28 rfl rfl rfl ?_
    refine r_callV (q := 32) (ci := 10) (As := []) dX8_fill_29 s_X8_fill_58 xset_s rfl rfl rfl (Nat.le_of_ble_eq_true rfl) rfl rfl rfl (Nat.le_of_ble_eq_true rfl) (Nat.le_of_ble_eq_true rfl) ⟨(Nat.le_of_ble_eq_true rfl), (Nat.le_of_ble_eq_true rfl)⟩ rfl ?_
    refine ct_X8_fullLitres (f := upd f 4 (if f 3 = 0 then 10 else mx 10 (f 4 - 5))) (by first | (rw [if_pos h5]; exact xset_s) | (rw [if_neg h5]; exact xset_s)) ?_
    refine r_putfield (q := 35) dX8_fill_32 f_X8_fill_19 xset_s rfl rfl (Nat.le_of_ble_eq_true rfl) rfl ?_
    refine r_vret dX8_fill_35 rfl (Nat.le_of_ble_eq_true rfl) (Nat.le_of_ble_eq_true rfl) ?_
    first | (rw [if_neg h5] at hp; rw [xset_xset]; exact hp) | (rw [if_pos h5] at hp; rw [xset_xset]; exact hp)
set_option maxRecDepth 100000 in
set_option maxHeartbeats 4000000 in
theorem ct_X8_empty {E : xE} {Po : xPo} {w : xW} {a : Nat} {f : Nat → Int32} (hw : w.1 a = some (tubE f)) (hp : Po (.inl none) (xset w a (tubE (upd (upd f 3 0) 5 0)))) : Ct M_X8_empty E [.ref a] w Po := by
  refine Ct.of (ws2 := xAll) (L := [some (.ref a)]) (by decide +kernel) rfl rfl (List.forall_mem_cons.mpr ⟨rfl, fun _ h => absurd h List.not_mem_nil⟩) (Nat.le_of_ble_eq_true rfl) rfl ?_
  refine r_aload_n (q := 1) dX8_empty_0 rfl rfl rfl ?_
  refine r_iconst (q := 2) (v := 0) dX8_empty_1 rfl rfl ?_
  refine r_putfield (q := 5) dX8_empty_2 f_X8_empty_19 hw rfl rfl (Nat.le_of_ble_eq_true rfl) rfl ?_
  refine r_aload_n (q := 6) dX8_empty_5 rfl rfl rfl ?_
  refine r_iconst (q := 7) (v := 0) dX8_empty_6 rfl rfl ?_
  refine r_putfield (q := 10) dX8_empty_7 f_X8_empty_25 xset_s rfl rfl (Nat.le_of_ble_eq_true rfl) rfl ?_
  refine r_vret dX8_empty_10 rfl (Nat.le_of_ble_eq_true rfl) (Nat.le_of_ble_eq_true rfl) ?_
  rw [xset_xset]; exact hp
set_option maxRecDepth 100000 in
set_option maxHeartbeats 4000000 in
theorem ct_X8_copyFrom {E : xE} {Po : xPo} {w : xW} {a b : Nat} {f g : Nat → Int32} (hw : w.1 a = some (tubE f)) (hu : w.1 b = some (tubE g)) (hab : b ≠ a) (hp : Po (.inl none) (xset w a (tubE g))) : Ct M_X8_copyFrom E [.ref a, .ref b] w Po := by
  refine Ct.of (ws2 := xAll) (L := [some (.ref a), some (.ref b)]) (by decide +kernel) rfl rfl (List.forall_mem_cons.mpr ⟨rfl, List.forall_mem_cons.mpr ⟨rfl, fun _ h => absurd h List.not_mem_nil⟩⟩) (Nat.le_of_ble_eq_true rfl) rfl ?_
  refine r_aload_n (q := 1) dX8_copyFrom_0 rfl rfl rfl ?_
  refine r_aload_n (q := 2) dX8_copyFrom_1 rfl rfl rfl ?_
  refine r_getfield (q := 5) dX8_copyFrom_2 f_X8_copyFrom_7 hu rfl rfl ?_
  refine r_putfield (q := 8) dX8_copyFrom_5 f_X8_copyFrom_7 hw rfl rfl (Nat.le_of_ble_eq_true rfl) rfl ?_
  refine r_aload_n (q := 9) dX8_copyFrom_8 rfl rfl rfl ?_
  refine r_aload_n (q := 10) dX8_copyFrom_9 rfl rfl rfl ?_
  refine r_getfield (q := 13) dX8_copyFrom_10 f_X8_copyFrom_13 ((xset_o hab).trans hu) (by rfl) rfl ?_
  refine r_putfield (q := 16) dX8_copyFrom_13 f_X8_copyFrom_13 xset_s rfl rfl (Nat.le_of_ble_eq_true rfl) rfl ?_
  rw [xset_xset]
  refine r_aload_n (q := 17) dX8_copyFrom_16 rfl rfl rfl ?_
  refine r_aload_n (q := 18) dX8_copyFrom_17 rfl rfl rfl ?_
  refine r_getfield (q := 21) dX8_copyFrom_18 f_X8_copyFrom_16 ((xset_o hab).trans hu) (by rfl) rfl ?_
  refine r_putfield (q := 24) dX8_copyFrom_21 f_X8_copyFrom_16 xset_s rfl rfl (Nat.le_of_ble_eq_true rfl) rfl ?_
  rw [xset_xset]
  refine r_aload_n (q := 25) dX8_copyFrom_24 rfl rfl rfl ?_
  refine r_aload_n (q := 26) dX8_copyFrom_25 rfl rfl rfl ?_
  refine r_getfield (q := 29) dX8_copyFrom_26 f_X8_copyFrom_19 ((xset_o hab).trans hu) (by rfl) rfl ?_
  refine r_putfield (q := 32) dX8_copyFrom_29 f_X8_copyFrom_19 xset_s rfl rfl (Nat.le_of_ble_eq_true rfl) rfl ?_
  rw [xset_xset]
  refine r_aload_n (q := 33) dX8_copyFrom_32 rfl rfl rfl ?_
  refine r_aload_n (q := 34) dX8_copyFrom_33 rfl rfl rfl ?_
  refine r_getfield (q := 37) dX8_copyFrom_34 f_X8_copyFrom_22 ((xset_o hab).trans hu) (by rfl) rfl ?_
  refine r_putfield (q := 40) dX8_copyFrom_37 f_X8_copyFrom_22 xset_s rfl rfl (Nat.le_of_ble_eq_true rfl) rfl ?_
  rw [xset_xset]
  refine r_aload_n (q := 41) dX8_copyFrom_40 rfl rfl rfl ?_
  refine r_aload_n (q := 42) dX8_copyFrom_41 rfl rfl rfl ?_
  refine r_getfield (q := 45) dX8_copyFrom_42 f_X8_copyFrom_25 ((xset_o hab).trans hu) (by rfl) rfl ?_
  refine r_putfield (q := 48) dX8_copyFrom_45 f_X8_copyFrom_25 xset_s (bb_nar _) (bb_fit _) (Nat.le_of_ble_eq_true rfl) rfl ?_
  rw [xset_xset]
  refine r_aload_n (q := 49) dX8_copyFrom_48 rfl rfl rfl ?_
  refine r_aload_n (q := 50) dX8_copyFrom_49 rfl rfl rfl ?_
  refine r_getfield (q := 53) dX8_copyFrom_50 f_X8_copyFrom_29 ((xset_o hab).trans hu) (by rfl) rfl ?_
  refine r_putfield (q := 56) dX8_copyFrom_53 f_X8_copyFrom_29 xset_s rfl rfl (Nat.le_of_ble_eq_true rfl) rfl ?_
  rw [xset_xset]
  refine r_vret dX8_copyFrom_56 rfl (Nat.le_of_ble_eq_true rfl) (Nat.le_of_ble_eq_true rfl) ?_
  exact hp
set_option maxRecDepth 100000 in
set_option maxHeartbeats 4000000 in
theorem ct_X2_copyFrom {E : xE} {Po : xPo} {w : xW} {a b : Nat} {f g : Nat → Int32} (hw : w.1 a = some (htrE f)) (hu : w.1 b = some (htrE g)) (hab : b ≠ a) (hp : Po (.inl none) (xset w a (htrE g))) : Ct M_X2_copyFrom E [.ref a, .ref b] w Po := by
  refine Ct.of (ws2 := xAll) (L := [some (.ref a), some (.ref b)]) (by decide +kernel) rfl rfl (List.forall_mem_cons.mpr ⟨rfl, List.forall_mem_cons.mpr ⟨rfl, fun _ h => absurd h List.not_mem_nil⟩⟩) (Nat.le_of_ble_eq_true rfl) rfl ?_
  refine r_aload_n (q := 1) dX2_copyFrom_0 rfl rfl rfl ?_
  refine r_aload_n (q := 2) dX2_copyFrom_1 rfl rfl rfl ?_
  refine r_getfield (q := 5) dX2_copyFrom_2 f_X2_copyFrom_7 hu rfl rfl ?_
  refine r_putfield (q := 8) dX2_copyFrom_5 f_X2_copyFrom_7 hw rfl rfl (Nat.le_of_ble_eq_true rfl) rfl ?_
  refine r_aload_n (q := 9) dX2_copyFrom_8 rfl rfl rfl ?_
  refine r_aload_n (q := 10) dX2_copyFrom_9 rfl rfl rfl ?_
  refine r_getfield (q := 13) dX2_copyFrom_10 f_X2_copyFrom_13 ((xset_o hab).trans hu) (by rfl) rfl ?_
  refine r_putfield (q := 16) dX2_copyFrom_13 f_X2_copyFrom_13 xset_s rfl rfl (Nat.le_of_ble_eq_true rfl) rfl ?_
  rw [xset_xset]
  refine r_vret dX2_copyFrom_16 rfl (Nat.le_of_ble_eq_true rfl) (Nat.le_of_ble_eq_true rfl) ?_
  exact hp
set_option maxRecDepth 100000 in
set_option maxHeartbeats 4000000 in
theorem ct_X4_keep {E : xE} {Po : xPo} {w : xW} {a : Nat} {f : Nat → Int32} {x y : Int32} (hw : w.1 a = some (rfsE f)) (hp : Po (.inl (some (.int (-1)))) (xset w a (rfsE (upd (upd f 10 x) 11 y)))) : Ct M_X4_keep E [.ref a, .int x, .int y] w Po := by
  refine Ct.of (ws2 := xAll) (L := [some (.ref a), some (.int x), some (.int y)]) (by decide +kernel) rfl rfl (List.forall_mem_cons.mpr ⟨rfl, List.forall_mem_cons.mpr ⟨rfl, List.forall_mem_cons.mpr ⟨rfl, fun _ h => absurd h List.not_mem_nil⟩⟩⟩) (Nat.le_of_ble_eq_true rfl) rfl ?_
  refine r_aload_n (q := 1) dX4_keep_0 rfl rfl rfl ?_
  refine r_iload_n (q := 2) dX4_keep_1 rfl rfl rfl ?_
  refine r_putfield (q := 5) dX4_keep_2 f_X4_keep_7 hw rfl rfl (Nat.le_of_ble_eq_true rfl) rfl ?_
  refine r_aload_n (q := 6) dX4_keep_5 rfl rfl rfl ?_
  refine r_iload_n (q := 7) dX4_keep_6 rfl rfl rfl ?_
  refine r_putfield (q := 10) dX4_keep_7 f_X4_keep_13 xset_s rfl rfl (Nat.le_of_ble_eq_true rfl) rfl ?_
  rw [xset_xset]
  refine r_iconst (q := 11) (v := (-1)) dX4_keep_10 rfl rfl ?_
  refine r_iret dX4_keep_11 rfl (Nat.le_of_ble_eq_true rfl) (Nat.le_of_ble_eq_true rfl) ?_
  exact hp
