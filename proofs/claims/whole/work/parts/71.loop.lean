/-! ===== 71.loop: the law from its entry to its end (rows laid by wip/whole/gen/make71.py) ===== -/
theorem ew0 : (Jvm.Cond.classLink "TubHireLaw" (8 : Nat) "TubHire") ∈ xAll := xin1 (List.mem_of_getElem? (i := 36) (by decide +kernel)) (by decide +kernel)
theorem ew1 : (Jvm.Cond.instantiable "TubHire" (8 : Nat)) ∈ xAll := xin1 (List.mem_of_getElem? (i := 37) (by decide +kernel)) (by decide +kernel)
theorem ew2 : (Jvm.Cond.initialized "TubHire") ∈ xAll := xin1 (List.mem_of_getElem? (i := 1) (by decide +kernel)) (by decide +kernel)
theorem ew3 : (Jvm.Cond.classLink "TubHireLaw" (133 : Nat) "TubHireModel") ∈ xAll := xin6 (List.mem_of_getElem? (i := 183) (by decide +kernel)) (by decide +kernel)
theorem ew4 : (Jvm.Cond.instantiable "TubHireModel" (21 : Nat)) ∈ xAll := xin6 (List.mem_of_getElem? (i := 184) (by decide +kernel)) (by decide +kernel)
theorem ew5 : (Jvm.Cond.initialized "TubHireModel") ∈ xAll := xin1 (List.mem_of_getElem? (i := 15) (by decide +kernel)) (by decide +kernel)
theorem and63 (y : Int32) : ∃ q, q < 64 ∧ y &&& 63 = nI q := by
  refine ⟨y.toBitVec.toNat % 64, Nat.mod_lt _ (by decide), ?_⟩
  refine Int32.toBitVec_inj.mp (BitVec.eq_of_toNat_eq ?_)
  rw [Int32.toBitVec_and, BitVec.toNat_and, show (63 : Int32).toBitVec.toNat = 2 ^ 6 - 1 from by decide, Nat.and_two_pow_sub_one_eq_mod]
  have h : y.toBitVec.toNat % 2 ^ 6 < 64 := Nat.mod_lt _ (by decide)
  show y.toBitVec.toNat % 2 ^ 6 = (nI (y.toBitVec.toNat % 64)).toBitVec.toNat
  generalize y.toBitVec.toNat % 2 ^ 6 = z at h ⊢
  revert z
  decide +kernel
theorem nw_law_8 : xNew M_L_law 8 11 8 [.null, .null, .null, .null, .null, .null, .int 0, .int 0] := ⟨RX9, TX9, tyX9, rfl, fun w h => mP (inX9 w h), mP (ew0), mP (ew1), mP (ew2), tyX9_ok, by decide +kernel⟩
theorem nw_law_133 : xNew M_L_law 133 12 21 [.null, .null, .null, .null, .int 0, .null, .int 0, .int 0, .int 0, .int 0, .int 0, .null, .int 0, .null, .null, .int 0, .int 0, .int 0, .int 0, .null, .int 0] := ⟨RX10, TX10, tyX10, rfl, fun w h => mP (inX10 w h), mP (ew3), mP (ew4), mP (ew5), tyX10_ok, by decide +kernel⟩

set_option maxRecDepth 100000 in
set_option maxHeartbeats 4000000 in
theorem lp_law_case {E : xE} {Po : xPo} {w0 w : xW} {x K I k n : Nat} {h : xHi} {d : xCo} {r : mRs} {o : Nat → Int32} {t : mTx} (S : LWS E w x K h d r o t) (hK : K + 15000 < 16000000) (hk : k + 40 ≤ 603072) (hn : n + 4000 ≤ 7227498) (hI : I + 2 < E.2.2.2.1) (hE : E.2.2.2.1 < 100000) (kx : ∀ u h2 d2 r2 o2 t2, LWS E u x (K + 15000) h2 d2 r2 o2 t2 → WF M_L_law E Po w0 2259 (LL E x I) [] u (k + 40) (n + 4000)) : WF M_L_law E Po w0 37 (LL E x I) [] w k n := by
  refine r_aload_n (q := 38) dL_law_37 rfl rfl rfl ?_
  refine r_iload (q := 40) dL_law_38 rfl rfl ?_
  refine r_sld (q := 41) dL_law_40 (vp_in_nI (by omega) (by omega)) rfl ?_
  refine r_bipush (q := 43) (v := 63) dL_law_41 (by decide) rfl ?_
  refine r_iand (q := 44) dL_law_43 rfl ?_
  obtain ⟨q, hq, e⟩ := and63 (E.2.2.2.2 (nI I).toNatClampNeg)
  rw [e]
  by_cases e0 : q = 0
  · subst e0
    exact r_tableIn (off := 160) (q := 204) dL_law_44 (by decide) (by decide) (by decide) (by decide) (lc_tub S hK hk hn hI hE kx)
  by_cases e1 : q = 1
  · subst e1
    exact r_tableIn (off := 216) (q := 260) dL_law_44 (by decide) (by decide) (by decide) (by decide) (lc_tubOf S hK hk hn hI hE kx)
  by_cases e2 : q = 2
  · subst e2
    exact r_tableIn (off := 284) (q := 328) dL_law_44 (by decide) (by decide) (by decide) (by decide) (lc_torn S hK hk hn hI hE kx)
  by_cases e3 : q = 3
  · subst e3
    exact r_tableIn (off := 352) (q := 396) dL_law_44 (by decide) (by decide) (by decide) (by decide) (lc_tear S hK hk hn hI hE kx)
  by_cases e4 : q = 4
  · subst e4
    exact r_tableIn (off := 420) (q := 464) dL_law_44 (by decide) (by decide) (by decide) (by decide) (lc_mend S hK hk hn hI hE kx)
  by_cases e5 : q = 5
  · subst e5
    exact r_tableIn (off := 488) (q := 532) dL_law_44 (by decide) (by decide) (by decide) (by decide) (lc_bestTub S hK hk hn hI hE kx)
  by_cases e6 : q = 6
  · subst e6
    exact r_tableIn (off := 532) (q := 576) dL_law_44 (by decide) (by decide) (by decide) (by decide) (lc_out S hK hk hn hI hE kx)
  by_cases e7 : q = 7
  · subst e7
    exact r_tableIn (off := 600) (q := 644) dL_law_44 (by decide) (by decide) (by decide) (by decide) (lc_back S hK hk hn hI hE kx)
  by_cases e8 : q = 8
  · subst e8
    exact r_tableIn (off := 656) (q := 700) dL_law_44 (by decide) (by decide) (by decide) (by decide) (lc_tent S hK hk hn hI hE kx)
  by_cases e9 : q = 9
  · subst e9
    exact r_tableIn (off := 712) (q := 756) dL_law_44 (by decide) (by decide) (by decide) (by decide) (lc_tentOf S hK hk hn hI hE kx)
  by_cases e10 : q = 10
  · subst e10
    exact r_tableIn (off := 780) (q := 824) dL_law_44 (by decide) (by decide) (by decide) (by decide) (lc_waiting S hK hk hn hI hE kx)
  by_cases e11 : q = 11
  · subst e11
    exact r_tableIn (off := 848) (q := 892) dL_law_44 (by decide) (by decide) (by decide) (by decide) (lc_join S hK hk hn hI hE kx)
  by_cases e12 : q = 12
  · subst e12
    exact r_tableIn (off := 904) (q := 948) dL_law_44 (by decide) (by decide) (by decide) (by decide) (lc_heater S hK hk hn hI hE kx)
  by_cases e13 : q = 13
  · subst e13
    exact r_tableIn (off := 948) (q := 992) dL_law_44 (by decide) (by decide) (by decide) (by decide) (lc_heaterOf S hK hk hn hI hE kx)
  by_cases e14 : q = 14
  · subst e14
    exact r_tableIn (off := 1032) (q := 1076) dL_law_44 (by decide) (by decide) (by decide) (by decide) (lc_heat S hK hk hn hI hE kx)
  by_cases e15 : q = 15
  · subst e15
    exact r_tableIn (off := 1100) (q := 1144) dL_law_44 (by decide) (by decide) (by decide) (by decide) (lc_cold S hK hk hn hI hE kx)
  by_cases e16 : q = 16
  · subst e16
    exact r_tableIn (off := 1156) (q := 1200) dL_law_44 (by decide) (by decide) (by decide) (by decide) (lc_gas S hK hk hn hI hE kx)
  by_cases e17 : q = 17
  · subst e17
    exact r_tableIn (off := 1224) (q := 1268) dL_law_44 (by decide) (by decide) (by decide) (by decide) (lc_wash S hK hk hn hI hE kx)
  by_cases e18 : q = 18
  · subst e18
    exact r_tableIn (off := 1280) (q := 1324) dL_law_44 (by decide) (by decide) (by decide) (by decide) (lc_soap S hK hk hn hI hE kx)
  by_cases e19 : q = 19
  · subst e19
    exact r_tableIn (off := 1336) (q := 1380) dL_law_44 (by decide) (by decide) (by decide) (by decide) (lc_pass S hK hk hn hI hE kx)
  by_cases e20 : q = 20
  · subst e20
    exact r_tableIn (off := 1392) (q := 1436) dL_law_44 (by decide) (by decide) (by decide) (by decide) (lc_heatsIn S hK hk hn hI hE kx)
  by_cases e21 : q = 21
  · subst e21
    exact r_tableIn (off := 1460) (q := 1504) dL_law_44 (by decide) (by decide) (by decide) (by decide) (lc_heatsAgain S hK hk hn hI hE kx)
  by_cases e22 : q = 22
  · subst e22
    exact r_tableIn (off := 1528) (q := 1572) dL_law_44 (by decide) (by decide) (by decide) (by decide) (lc_bathesIn S hK hk hn hI hE kx)
  by_cases e23 : q = 23
  · subst e23
    exact r_tableIn (off := 1584) (q := 1628) dL_law_44 (by decide) (by decide) (by decide) (by decide) (lc_line S hK hk hn hI hE kx)
  by_cases e24 : q = 24
  · subst e24
    exact r_tableIn (off := 1640) (q := 1684) dL_law_44 (by decide) (by decide) (by decide) (by decide) (lc_character S hK hk hn hI hE kx)
  by_cases e25 : q = 25
  · subst e25
    exact r_tableIn (off := 1696) (q := 1740) dL_law_44 (by decide) (by decide) (by decide) (by decide) (lc_number S hK hk hn hI hE kx)
  by_cases e26 : q = 26
  · subst e26
    exact r_tableIn (off := 1752) (q := 1796) dL_law_44 (by decide) (by decide) (by decide) (by decide) (lc_towels S hK hk hn hI hE kx)
  by_cases e27 : q = 27
  · subst e27
    exact r_tableIn (off := 1765) (q := 1809) dL_law_44 (by decide) (by decide) (by decide) (by decide) (lc_meanWarmth S hK hk hn hI hE kx)
  by_cases e28 : q = 28
  · subst e28
    exact r_tableIn (off := 1830) (q := 1874) dL_law_44 (by decide) (by decide) (by decide) (by decide) (lc_bathedShare S hK hk hn hI hE kx)
  by_cases e29 : q = 29
  · subst e29
    exact r_tableIn (off := 1896) (q := 1940) dL_law_44 (by decide) (by decide) (by decide) (by decide) (lc_feed S hK hk hn hI hE kx)
  by_cases e30 : q = 30
  · subst e30
    exact r_tableIn (off := 1954) (q := 1998) dL_law_44 (by decide) (by decide) (by decide) (by decide) (lc_read S hK hk hn hI hE kx)
  by_cases e31 : q = 31
  · subst e31
    exact r_tableIn (off := 1998) (q := 2042) dL_law_44 (by decide) (by decide) (by decide) (by decide) (lc_faultPosition S hK hk hn hI hE kx)
  by_cases e32 : q = 32
  · subst e32
    exact r_tableIn (off := 2042) (q := 2086) dL_law_44 (by decide) (by decide) (by decide) (by decide) (lc_refusal S hK hk hn hI hE kx)
  by_cases e33 : q = 33
  · subst e33
    exact r_tableIn (off := 2114) (q := 2158) dL_law_44 (by decide) (by decide) (by decide) (by decide) (lc_undo S hK hk hn hI hE kx)
  by_cases e34 : q = 34
  · subst e34
    exact r_tableIn (off := 2158) (q := 2202) dL_law_44 (by decide) (by decide) (by decide) (by decide) (lc_saveSnapshot S hK hk hn hI hE kx)
  by_cases e35 : q = 35
  · subst e35
    exact r_tableIn (off := 2171) (q := 2215) dL_law_44 (by decide) (by decide) (by decide) (by decide) (lc_restoreSnapshot S hK hk hn hI hE kx)
  refine r_tableOut (q := 2259) dL_law_44 (Or.inr ?_) (by decide) (WF.wide (kx _ h d r o t ⟨S.1, S.2.1, S.2.2.mono (by omega)⟩) (by omega) (by omega))
  rw [nI_toInt (by omega)]
  omega
set_option maxRecDepth 100000 in
set_option maxHeartbeats 4000000 in
theorem lp_law {E : xE} {Po : xPo} {w0 : xW} {x : Nat} (hE : E.2.2.2.1 ≤ 1536) (hpo : ∀ u, Po (.inl (some (.int 1))) u) : ∀ (z j : Nat) (w : xW) (h : xHi) (d : xCo) (r : mRs) (o : Nat → Int32) (t : mTx), LWS E w x (15000 * j) h d r o t → j ≤ 512 → E.2.2.2.1 ≤ 3 * j + 3 * z → WF M_L_law E Po w0 28 (LL E x (3 * j)) [] w (1000 + 40 * j) (10000 + 4000 * j) := by
  intro z
  induction z with
  | zero =>
    intro j w h d r o t S hj hz
    refine r_iload (q := 30) dL_law_28 rfl rfl ?_
    refine r_aload_n (q := 31) dL_law_30 rfl rfl rfl ?_
    refine r_slen (q := 32) dL_law_31 rfl ?_
    refine r_iconst (q := 33) (v := 3) dL_law_32 rfl rfl ?_
    refine r_isub (q := 34) dL_law_33 rfl ?_
    refine r_icmp_gt (q := 2265) (q2 := 37) dL_law_34 (by decide) rfl (fun _ => ?_) (fun h9 => absurd ?_ h9)
    · refine r_iconst (q := 2266) (v := 1) dL_law_2265 rfl rfl ?_
      exact r_zret (ty := .boolean) dL_law_2266 rfl (by decide) (show 1000 + 40 * j ≤ 603072 by omega) (show 10000 + 4000 * j ≤ 7227498 by omega) (hpo _)
    · have e := sb2_toInt (a := E.2.2.2.1) (b := 3) (by omega) (by decide)
      show nI E.2.2.2.1 - nI 3 < nI (3 * j)
      rw [Int32.lt_iff_toInt_lt, e, nI_toInt (by omega)]
      omega
  | succ z ih =>
    intro j w h d r o t S hj hz
    refine r_iload (q := 30) dL_law_28 rfl rfl ?_
    refine r_aload_n (q := 31) dL_law_30 rfl rfl rfl ?_
    refine r_slen (q := 32) dL_law_31 rfl ?_
    refine r_iconst (q := 33) (v := 3) dL_law_32 rfl rfl ?_
    refine r_isub (q := 34) dL_law_33 rfl ?_
    refine r_icmp_gt (q := 2265) (q2 := 37) dL_law_34 (by decide) rfl (fun _ => ?_) (fun h9 => ?_)
    · refine r_iconst (q := 2266) (v := 1) dL_law_2265 rfl rfl ?_
      exact r_zret (ty := .boolean) dL_law_2266 rfl (by decide) (show 1000 + 40 * j ≤ 603072 by omega) (show 10000 + 4000 * j ≤ 7227498 by omega) (hpo _)
    · have e := sb2_toInt (a := E.2.2.2.1) (b := 3) (by omega) (by decide)
      have h8 : ¬ nI E.2.2.2.1 - nI 3 < nI (3 * j) := h9
      rw [Int32.lt_iff_toInt_lt, e, nI_toInt (by omega)] at h8
      have hI : 3 * j + 2 < E.2.2.2.1 := by omega
      refine lp_law_case S (by omega) (by omega) (by omega) hI (by omega) (fun u h2 d2 r2 o2 t2 S2 => ?_)
      refine r_iinc (q := 2262) dL_law_2259 rfl (Nat.le_of_ble_eq_true rfl) (xone_of rfl) rfl ?_
      rw [show nI (3 * j) + Int32.ofInt 3 = nI (3 * (j + 1)) from nI_a2 (3 * j) 3]
      refine r_goto (q := 28) dL_law_2262 (by decide) ?_
      exact ih (j + 1) u h2 d2 r2 o2 t2 (by rw [Nat.mul_succ]; exact S2) (by omega) (by omega)
theorem j9_0 : J9 0 co0 := by
  refine ⟨⟨⟨rfl, by decide⟩, ⟨rfl, by decide⟩, ⟨rfl, by decide⟩⟩, ⟨⟨0, by decide, rfl⟩, ⟨0, by decide, rfl⟩, ⟨0, by decide, rfl⟩, ⟨10, by decide, rfl⟩, ⟨10, by decide, rfl⟩⟩, fun j _ => ⟨⟨0, by decide, rfl⟩, ⟨0, by decide, rfl⟩, ⟨0, by decide, rfl⟩, ⟨10, by decide, by decide, rfl⟩, Or.inl rfl, ⟨0, by decide, rfl⟩, fun _ => ⟨rfl, rfl⟩⟩, fun u _ => ⟨⟨0, by decide, rfl⟩, ⟨0, by decide, rfl⟩⟩, fun g _ => ⟨20, by decide, rfl⟩, ⟨fun _ _ => Or.inl rfl, fun _ _ => Or.inl rfl, fun _ _ => Or.inl rfl, fun _ _ => Or.inl rfl⟩, ⟨fun _ _ _ _ _ => rfl, fun _ _ _ _ _ => rfl, fun _ _ _ _ _ => rfl⟩, fun j hj => absurd hj (Nat.not_lt_zero _)⟩
theorem r9_0 : R9 co0 d0 := by
  refine ⟨fun k hk => ?_, fun j hj => absurd hj (Nat.not_lt_zero _), fun j hj => absurd hj (Nat.not_lt_zero _), fun j hj => absurd hj (Nat.not_lt_zero _)⟩
  rfl
theorem ud_0 : UD d0 := ⟨fun _ _ => ⟨0, by decide, rfl⟩, fun _ _ _ _ _ => rfl, fun _ _ _ _ _ => rfl, fun _ _ _ _ _ => rfl, fun _ _ _ _ _ => (by decide : ¬ (0 : Int32) < 0)⟩
theorem iv_0 {x : Nat} : IV 0 (h9 x) d0 r0 o0 t0 := by
  refine ⟨⟨⟨r9_0, j9_0, ud_0⟩, rfl, rfl⟩, ⟨rfl, Or.inl rfl⟩, ⟨0, by decide, (by decide : (0 : Nat) < 9), rfl, rfl, fun i hi => absurd hi (Nat.not_lt_zero _)⟩, ⟨0, by decide, rfl, rfl, rfl⟩, rfl, [], ⟨rfl, Nat.zero_le _, (by decide : (16 : Nat) ≤ 125), fun _ hj => absurd hj (Nat.not_lt_zero _), fun _ hx => absurd hx List.not_mem_nil, ?_⟩, Nat.zero_le _, rfl, fun k hk => absurd hk (Nat.not_lt_zero _)⟩
  intro j
  exact rfl
set_option maxRecDepth 100000 in
set_option maxHeartbeats 4000000 in
theorem ct_law {E : xE} {Po : xPo} {w0 : xW} (hE : E.2.2.2.1 ≤ 1536) (hpo : ∀ u, Po (.inl (some (.int 1))) u) : WF M_L_law E Po w0 0 [some (.ref E.2.2.1), none, none, none, none, none, none, none, none] [] w0 0 0 := by
  refine r_new (q := 3) dL_law_0 nw_law_8 (Nat.le_of_ble_eq_true rfl) (Nat.le_of_ble_eq_true rfl) rfl ?_
  refine r_dup (q := 4) dL_law_3 rfl rfl ?_
  refine r_callI (q := 7) (As := []) dL_law_4 s_L_law_132 rfl (Nat.le_of_ble_eq_true rfl) rfl rfl rfl ⟨Nat.le_of_ble_eq_true rfl, Nat.le_of_ble_eq_true rfl⟩ rfl ?_
  refine ct_X9_init rfl xadd_s ?_
  show WF M_L_law E Po w0 7 _ [.ref w0.2] (pst _ w0.2 331 (hirC E w0.2)) _ _
  refine r_astore_n (q := 8) dL_law_7 rfl (Nat.le_of_ble_eq_true rfl) (xone_of rfl) rfl ?_
  have H0 : HI E (pst (xadd w0 (.inr (11, [.null, .null, .null, .null, .null, .null, .int 0, .int 0]))) w0.2 331 (hirC E w0.2)) w0.2 (h9 w0.2) := hi_init
  have z0 : (pst (xadd w0 (.inr (11, [.null, .null, .null, .null, .null, .null, .int 0, .int 0]))) w0.2 331 (hirC E w0.2)).2 = w0.2 + 331 := rfl
  generalize pst (xadd w0 (.inr (11, [.null, .null, .null, .null, .null, .null, .int 0, .int 0]))) w0.2 331 (hirC E w0.2) = w1 at H0 z0 ⊢
  refine r_new (q := 11) dL_law_8 nw_law_133 (Nat.le_of_ble_eq_true rfl) (Nat.le_of_ble_eq_true rfl) rfl ?_
  refine r_dup (q := 12) dL_law_11 rfl rfl ?_
  refine r_callI (q := 15) (As := []) dL_law_12 s_L_law_135 rfl (Nat.le_of_ble_eq_true rfl) rfl rfl rfl ⟨Nat.le_of_ble_eq_true rfl, Nat.le_of_ble_eq_true rfl⟩ rfl ?_
  refine ct_X10_init rfl xadd_s ?_
  show WF M_L_law E Po w0 15 _ [.ref w1.2] _ _ _
  rw [z0]
  refine r_astore_n (q := 16) dL_law_15 rfl (Nat.le_of_ble_eq_true rfl) (xone_of rfl) rfl ?_
  refine r_iconst (q := 17) (v := 1) dL_law_16 rfl rfl ?_
  refine r_newarray (q := 19) (ty := .long) (t0 := 8) (N := 1) (a0 := (1, .inr (.inl (fun _ => 0)))) dL_law_17 rfl (mP aw_long) rfl (fun _ h => h) rfl (by decide) (by decide) (Nat.le_of_ble_eq_true rfl) (Nat.le_of_ble_eq_true rfl) (Nat.le_of_ble_eq_true rfl) rfl ?_
  refine r_astore_n (q := 20) dL_law_19 rfl (Nat.le_of_ble_eq_true rfl) (xone_of rfl) rfl ?_
  refine r_iconst (q := 21) (v := 1) dL_law_20 rfl rfl ?_
  refine r_newarray (q := 23) (ty := .double) (t0 := 9) (N := 1) (a0 := (1, .inr (.inr (.inr (.inl (fun _ => 0)))))) dL_law_21 rfl (mP aw_double) rfl (fun _ h => h) rfl (by decide) (by decide) (Nat.le_of_ble_eq_true rfl) (Nat.le_of_ble_eq_true rfl) (Nat.le_of_ble_eq_true rfl) rfl ?_
  refine r_astore (q := 25) dL_law_23 (Nat.le_of_ble_eq_true rfl) (xone_of rfl) rfl ?_
  refine r_iconst (q := 26) (v := 0) dL_law_25 rfl rfl ?_
  refine r_istore (q := 28) dL_law_26 (Nat.le_of_ble_eq_true rfl) (xone_of rfl) rfl ?_
  refine WF.wide (k2 := 1000 + 40 * 0) (n2 := 10000 + 4000 * 0) ?_ (Nat.le_of_ble_eq_true rfl) (Nat.le_of_ble_eq_true rfl)
  refine lp_law (x := w0.2) hE hpo 512 0 _ (h9 w0.2) d0 r0 o0 t0 ⟨⟨?_, ?_, Or.inl rfl, ?_⟩, ⟨⟨fun _ => 0, ?_⟩, ⟨fun _ => 0, ?_⟩⟩, iv_0⟩ (by decide) (by omega)
  · refine H0.ag (fun q hq => ?_) ?_
    · have hx : q < w0.2 + 331 := by
        rcases hq with hq | hq
        · omega
        · rw [hq]; exact Nat.lt_succ_self _
      rw [xadd_o (show q ≠ w0.2 + 331 + 10 + 1 by omega), xadd_o (show q ≠ w0.2 + 331 + 10 by omega)]
      refine (md_out (Or.inl hx)).trans ?_
      exact xadd_o (show q ≠ w1.2 by omega)
    · rw [z0]; show w0.2 + 331 ≤ w0.2 + 331 + 10 + 1 + 1; omega
  · intro q hq
    rw [xadd_o (show w0.2 + 331 + q ≠ w0.2 + 331 + 10 + 1 by omega), xadd_o (show w0.2 + 331 + q ≠ w0.2 + 331 + 10 by omega)]
    exact md_in hq
  · show w0.2 + 343 ≤ w0.2 + 331 + 10 + 1 + 1; omega
  · refine (xadd_o (show w0.2 + 341 ≠ w0.2 + 331 + 10 + 1 by omega)).trans ?_
    exact xadd_s
  · exact xadd_s
