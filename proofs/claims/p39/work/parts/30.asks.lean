/-! ===== 30.asks: tubOf, tentOf, heaterOf, number, feed (rows laid by wip/p39/gen/make30.py) ===== -/
set_option maxRecDepth 100000 in
set_option maxHeartbeats 4000000 in
theorem ct_X9_tubOf {E : xE} {Po : xPo} {w : xW} {x : Nat} {h : xHi} {t y : Int32} (H : HI E w x h) (hp : if okT (h.1 0) t then (if y < 0 then ∀ u, HI E u x h → Fr w u x h → Po (.inr "java/lang/IllegalArgumentException") u else if y ≤ 6 then Po (.inl (some (.int (tldS ((h.1 0).2.1 t.toNatClampNeg) y)))) w else ∀ u, HI E u x h → Fr w u x h → Po (.inr "java/lang/IllegalArgumentException") u) else ∀ u, HI E u x h → Fr w u x h → Po (.inr "java/lang/IndexOutOfBoundsException") u) : Ct M_X9_tubOf E [.ref x, .int t, .int y] w Po := by
  refine Ct.of (ws2 := xAll) (L := [some (.ref x), some (.int t), some (.int y), none]) (by decide +kernel) rfl rfl (List.forall_mem_cons.mpr ⟨rfl, List.forall_mem_cons.mpr ⟨rfl, List.forall_mem_cons.mpr ⟨rfl, fun _ h => absurd h List.not_mem_nil⟩⟩⟩) (Nat.le_of_ble_eq_true rfl) rfl ?_
  refine r_aload_n (q := 1) dX9_tubOf_0 rfl rfl rfl ?_
  refine r_getfield (q := 4) dX9_tubOf_1 f_X9_tubOf_10 H.1.1 rfl rfl ?_
  refine r_iload_n (q := 5) dX9_tubOf_4 rfl rfl rfl ?_
  refine r_callV (q := 8) (ci := 7) (As := [_]) dX9_tubOf_5 s_X9_tubOf_62 (H.2.1.1 0 (by decide)) rfl rfl rfl (Nat.le_of_ble_eq_true rfl) rfl rfl rfl (Nat.le_of_ble_eq_true rfl) (Nat.le_of_ble_eq_true rfl) ⟨(Nat.le_of_ble_eq_true rfl), (Nat.le_of_ble_eq_true rfl)⟩ rfl ?_
  by_cases ht : okT (h.1 0) t
  · rw [if_pos ht] at hp
    obtain ⟨j, hj, rfl⟩ := ht.ix
    rw [nI_cl (by omega)] at hp
    refine Ct.cw H.2.1.1.eq.symm (ct_X5_tubAt_in hj ht ?_)
    show WF _ E Po _ _ _ _ _ _ _
    refine WF.cw H.2.1.1.eq ?_
    refine r_astore_n (q := 9) dX9_tubOf_8 rfl (Nat.le_of_ble_eq_true rfl) (xone_of rfl) rfl ?_
    refine r_aload_n (q := 10) dX9_tubOf_9 rfl rfl rfl ?_
    refine r_ifnonnull (q := 23) dX9_tubOf_10 (by decide) ?_
    refine r_iload_n (q := 24) dX9_tubOf_23 rfl rfl rfl ?_
    refine r_if_lt (q := 33) (q2 := 27) dX9_tubOf_24 (by decide) rfl (fun h24 => ?_) (fun h24 => ?_)
    · rw [if_pos h24] at hp
      exact r_throwS (i := 4) (by decide +kernel) th_nm (by decide) (fun _ h => List.mem_cons_of_mem _ h) th_IA tk_IA ti_IA rfl dX9_tubOf_33 dX9_tubOf_36 dX9_tubOf_37 dX9_tubOf_39 dX9_tubOf_42 rfl (Nat.le_of_ble_eq_true rfl) (Nat.le_of_ble_eq_true rfl) (Nat.le_of_ble_eq_true rfl) (Nat.le_of_ble_eq_true rfl) (Nat.le_of_ble_eq_true rfl) (Nat.le_of_ble_eq_true rfl) (fun z hz => hp _ (H.sz hz) (Fr.id.sz hz))
    · rw [if_neg h24] at hp
      refine r_iload_n (q := 28) dX9_tubOf_27 rfl rfl rfl ?_
      refine r_bipush (q := 30) (v := 6) dX9_tubOf_28 (by decide) rfl ?_
      refine r_icmp_le (q := 43) (q2 := 33) dX9_tubOf_30 (by decide) rfl (fun h30 => ?_) (fun h30 => ?_)
      · rw [if_pos h30] at hp
        refine r_aload_n (q := 44) dX9_tubOf_43 rfl rfl rfl ?_
        refine r_iload_n (q := 45) dX9_tubOf_44 rfl rfl rfl ?_
        refine r_callV (q := 48) (ci := 10) (As := [_]) dX9_tubOf_45 s_X9_tubOf_78 (H.2.1.1.atT hj) rfl rfl rfl (Nat.le_of_ble_eq_true rfl) rfl rfl rfl (Nat.le_of_ble_eq_true rfl) (Nat.le_of_ble_eq_true rfl) ⟨(Nat.le_of_ble_eq_true rfl), (Nat.le_of_ble_eq_true rfl)⟩ rfl ?_
        refine ct_X8_told (H.2.1.1.atT hj) ?_
        show WF _ E Po _ _ _ _ _ _ _
        refine r_iret dX9_tubOf_48 rfl (Nat.le_of_ble_eq_true rfl) (Nat.le_of_ble_eq_true rfl) ?_
        exact hp
      · rw [if_neg h30] at hp
        exact r_throwS (i := 4) (by decide +kernel) th_nm (by decide) (fun _ h => List.mem_cons_of_mem _ h) th_IA tk_IA ti_IA rfl dX9_tubOf_33 dX9_tubOf_36 dX9_tubOf_37 dX9_tubOf_39 dX9_tubOf_42 rfl (Nat.le_of_ble_eq_true rfl) (Nat.le_of_ble_eq_true rfl) (Nat.le_of_ble_eq_true rfl) (Nat.le_of_ble_eq_true rfl) (Nat.le_of_ble_eq_true rfl) (Nat.le_of_ble_eq_true rfl) (fun z hz => hp _ (H.sz hz) (Fr.id.sz hz))
  · rw [if_neg ht] at hp
    refine Ct.cw H.2.1.1.eq.symm (ct_X5_tubAt_out ht ?_)
    show WF _ E Po _ _ _ _ _ _ _
    refine WF.cw H.2.1.1.eq ?_
    refine r_astore_nN (q := 9) dX9_tubOf_8 rfl (Nat.le_of_ble_eq_true rfl) (xone_of rfl) rfl ?_
    refine r_aload_nN (q := 10) dX9_tubOf_9 rfl rfl rfl ?_
    refine r_ifnonnullN (q := 13) dX9_tubOf_10 rfl ?_
    exact r_throwS (i := 3) (by decide +kernel) th_nm (by decide) (fun _ h => List.mem_cons_of_mem _ h) th_IO tk_IO ti_IO rfl dX9_tubOf_13 dX9_tubOf_16 dX9_tubOf_17 dX9_tubOf_19 dX9_tubOf_22 rfl (Nat.le_of_ble_eq_true rfl) (Nat.le_of_ble_eq_true rfl) (Nat.le_of_ble_eq_true rfl) (Nat.le_of_ble_eq_true rfl) (Nat.le_of_ble_eq_true rfl) (Nat.le_of_ble_eq_true rfl) (fun z hz => hp _ (H.sz hz) (Fr.id.sz hz))
set_option maxRecDepth 100000 in
set_option maxHeartbeats 4000000 in
theorem ct_X9_tentOf {E : xE} {Po : xPo} {w : xW} {x : Nat} {h : xHi} {t y : Int32} (H : HI E w x h) (hp : if okU (h.1 0) t then (if y < 0 then ∀ u, HI E u x h → Fr w u x h → Po (.inr "java/lang/IllegalArgumentException") u else if y ≤ 4 then Po (.inl (some (.int (tltS ((h.1 0).2.2.1 t.toNatClampNeg) y)))) w else ∀ u, HI E u x h → Fr w u x h → Po (.inr "java/lang/IllegalArgumentException") u) else ∀ u, HI E u x h → Fr w u x h → Po (.inr "java/lang/IndexOutOfBoundsException") u) : Ct M_X9_tentOf E [.ref x, .int t, .int y] w Po := by
  refine Ct.of (ws2 := xAll) (L := [some (.ref x), some (.int t), some (.int y), none]) (by decide +kernel) rfl rfl (List.forall_mem_cons.mpr ⟨rfl, List.forall_mem_cons.mpr ⟨rfl, List.forall_mem_cons.mpr ⟨rfl, fun _ h => absurd h List.not_mem_nil⟩⟩⟩) (Nat.le_of_ble_eq_true rfl) rfl ?_
  refine r_aload_n (q := 1) dX9_tentOf_0 rfl rfl rfl ?_
  refine r_getfield (q := 4) dX9_tentOf_1 f_X9_tentOf_10 H.1.1 rfl rfl ?_
  refine r_iload_n (q := 5) dX9_tentOf_4 rfl rfl rfl ?_
  refine r_callV (q := 8) (ci := 7) (As := [_]) dX9_tentOf_5 s_X9_tentOf_119 (H.2.1.1 0 (by decide)) rfl rfl rfl (Nat.le_of_ble_eq_true rfl) rfl rfl rfl (Nat.le_of_ble_eq_true rfl) (Nat.le_of_ble_eq_true rfl) ⟨(Nat.le_of_ble_eq_true rfl), (Nat.le_of_ble_eq_true rfl)⟩ rfl ?_
  by_cases ht : okU (h.1 0) t
  · rw [if_pos ht] at hp
    obtain ⟨j, hj, rfl⟩ := ht.ix
    rw [nI_cl (by omega)] at hp
    refine Ct.cw H.2.1.1.eq.symm (ct_X5_tentAt_in hj ht ?_)
    show WF _ E Po _ _ _ _ _ _ _
    refine WF.cw H.2.1.1.eq ?_
    refine r_astore_n (q := 9) dX9_tentOf_8 rfl (Nat.le_of_ble_eq_true rfl) (xone_of rfl) rfl ?_
    refine r_aload_n (q := 10) dX9_tentOf_9 rfl rfl rfl ?_
    refine r_ifnonnull (q := 23) dX9_tentOf_10 (by decide) ?_
    refine r_iload_n (q := 24) dX9_tentOf_23 rfl rfl rfl ?_
    refine r_if_lt (q := 32) (q2 := 27) dX9_tentOf_24 (by decide) rfl (fun h24 => ?_) (fun h24 => ?_)
    · rw [if_pos h24] at hp
      exact r_throwS (i := 9) (by decide +kernel) th_nm (by decide) (fun _ h => List.mem_cons_of_mem _ h) th_IA tk_IA ti_IA rfl dX9_tentOf_32 dX9_tentOf_35 dX9_tentOf_36 dX9_tentOf_38 dX9_tentOf_41 rfl (Nat.le_of_ble_eq_true rfl) (Nat.le_of_ble_eq_true rfl) (Nat.le_of_ble_eq_true rfl) (Nat.le_of_ble_eq_true rfl) (Nat.le_of_ble_eq_true rfl) (Nat.le_of_ble_eq_true rfl) (fun z hz => hp _ (H.sz hz) (Fr.id.sz hz))
    · rw [if_neg h24] at hp
      refine r_iload_n (q := 28) dX9_tentOf_27 rfl rfl rfl ?_
      refine r_iconst (q := 29) (v := 4) dX9_tentOf_28 rfl rfl ?_
      refine r_icmp_le (q := 42) (q2 := 32) dX9_tentOf_29 (by decide) rfl (fun h29 => ?_) (fun h29 => ?_)
      · rw [if_pos h29] at hp
        refine r_aload_n (q := 43) dX9_tentOf_42 rfl rfl rfl ?_
        refine r_iload_n (q := 44) dX9_tentOf_43 rfl rfl rfl ?_
        refine r_callV (q := 47) (ci := 8) (As := [_]) dX9_tentOf_44 s_X9_tentOf_127 (H.2.1.1.atU hj) rfl rfl rfl (Nat.le_of_ble_eq_true rfl) rfl rfl rfl (Nat.le_of_ble_eq_true rfl) (Nat.le_of_ble_eq_true rfl) ⟨(Nat.le_of_ble_eq_true rfl), (Nat.le_of_ble_eq_true rfl)⟩ rfl ?_
        refine ct_X6_told (H.2.1.1.atU hj) (H.2.1.1.atV hj) ?_
        show WF _ E Po _ _ _ _ _ _ _
        refine r_iret dX9_tentOf_47 rfl (Nat.le_of_ble_eq_true rfl) (Nat.le_of_ble_eq_true rfl) ?_
        exact hp
      · rw [if_neg h29] at hp
        exact r_throwS (i := 9) (by decide +kernel) th_nm (by decide) (fun _ h => List.mem_cons_of_mem _ h) th_IA tk_IA ti_IA rfl dX9_tentOf_32 dX9_tentOf_35 dX9_tentOf_36 dX9_tentOf_38 dX9_tentOf_41 rfl (Nat.le_of_ble_eq_true rfl) (Nat.le_of_ble_eq_true rfl) (Nat.le_of_ble_eq_true rfl) (Nat.le_of_ble_eq_true rfl) (Nat.le_of_ble_eq_true rfl) (Nat.le_of_ble_eq_true rfl) (fun z hz => hp _ (H.sz hz) (Fr.id.sz hz))
  · rw [if_neg ht] at hp
    refine Ct.cw H.2.1.1.eq.symm (ct_X5_tentAt_out ht ?_)
    show WF _ E Po _ _ _ _ _ _ _
    refine WF.cw H.2.1.1.eq ?_
    refine r_astore_nN (q := 9) dX9_tentOf_8 rfl (Nat.le_of_ble_eq_true rfl) (xone_of rfl) rfl ?_
    refine r_aload_nN (q := 10) dX9_tentOf_9 rfl rfl rfl ?_
    refine r_ifnonnullN (q := 13) dX9_tentOf_10 rfl ?_
    exact r_throwS (i := 8) (by decide +kernel) th_nm (by decide) (fun _ h => List.mem_cons_of_mem _ h) th_IO tk_IO ti_IO rfl dX9_tentOf_13 dX9_tentOf_16 dX9_tentOf_17 dX9_tentOf_19 dX9_tentOf_22 rfl (Nat.le_of_ble_eq_true rfl) (Nat.le_of_ble_eq_true rfl) (Nat.le_of_ble_eq_true rfl) (Nat.le_of_ble_eq_true rfl) (Nat.le_of_ble_eq_true rfl) (Nat.le_of_ble_eq_true rfl) (fun z hz => hp _ (H.sz hz) (Fr.id.sz hz))
set_option maxRecDepth 100000 in
set_option maxHeartbeats 4000000 in
theorem ct_X9_number {E : xE} {Po : xPo} {w : xW} {x : Nat} {h : xHi} {y : Int32} (H : HI E w x h) (hc : inC (h.1 0)) (hp : if y < 0 then ∀ u, HI E u x h → Fr w u x h → Po (.inr "java/lang/IllegalArgumentException") u else if y ≤ 16 then (if y = 15 then Po (.inl (some (.int h.2.1.2))) w else if y = 16 then Po (.inl (some (.int (h.2.2.1.1 0)))) w else Po (.inl (some (.int (stToldS (h.1 0) y)))) w) else ∀ u, HI E u x h → Fr w u x h → Po (.inr "java/lang/IllegalArgumentException") u) : Ct M_X9_number E [.ref x, .int y] w Po := by
  refine Ct.of (ws2 := xAll) (L := [some (.ref x), some (.int y)]) (by decide +kernel) rfl rfl (List.forall_mem_cons.mpr ⟨rfl, List.forall_mem_cons.mpr ⟨rfl, fun _ h => absurd h List.not_mem_nil⟩⟩) (Nat.le_of_ble_eq_true rfl) rfl ?_
  refine r_iload_n (q := 1) dX9_number_0 rfl rfl rfl ?_
  refine r_if_lt (q := 10) (q2 := 4) dX9_number_1 (by decide) rfl (fun h1 => ?_) (fun h1 => ?_)
  · rw [if_pos h1] at hp
    exact r_throwS (i := 0) (by decide +kernel) th_nm (by decide) (fun _ h => List.mem_cons_of_mem _ h) th_IA tk_IA ti_IA rfl dX9_number_10 dX9_number_13 dX9_number_14 dX9_number_16 dX9_number_19 rfl (Nat.le_of_ble_eq_true rfl) (Nat.le_of_ble_eq_true rfl) (Nat.le_of_ble_eq_true rfl) (Nat.le_of_ble_eq_true rfl) (Nat.le_of_ble_eq_true rfl) (Nat.le_of_ble_eq_true rfl) (fun z hz => hp _ (H.sz hz) (Fr.id.sz hz))
  · rw [if_neg h1] at hp
    refine r_iload_n (q := 5) dX9_number_4 rfl rfl rfl ?_
    refine r_bipush (q := 7) (v := 16) dX9_number_5 (by decide) rfl ?_
    refine r_icmp_le (q := 20) (q2 := 10) dX9_number_7 (by decide) rfl (fun h7 => ?_) (fun h7 => ?_)
    · rw [if_pos h7] at hp
      refine r_iload_n (q := 21) dX9_number_20 rfl rfl rfl ?_
      refine r_bipush (q := 23) (v := 15) dX9_number_21 (by decide) rfl ?_
      refine r_icmp_ne (q := 34) (q2 := 26) dX9_number_23 (by decide) rfl (fun h23 => ?_) (fun h23 => ?_)
      · rw [if_neg h23] at hp
        refine r_iload_n (q := 35) dX9_number_34 rfl rfl rfl ?_
        refine r_bipush (q := 37) (v := 16) dX9_number_35 (by decide) rfl ?_
        refine r_icmp_ne (q := 50) (q2 := 40) dX9_number_37 (by decide) rfl (fun h37 => ?_) (fun h37 => ?_)
        · rw [if_neg h37] at hp
          refine r_aload_n (q := 51) dX9_number_50 rfl rfl rfl ?_
          refine r_getfield (q := 54) dX9_number_51 f_X9_number_10 H.1.1 rfl rfl ?_
          refine r_iload_n (q := 55) dX9_number_54 rfl rfl rfl ?_
          refine r_callV (q := 58) (ci := 7) (As := [_]) dX9_number_55 s_X9_number_237 (H.2.1.1 0 (by decide)) rfl rfl rfl (Nat.le_of_ble_eq_true rfl) rfl rfl rfl (Nat.le_of_ble_eq_true rfl) (Nat.le_of_ble_eq_true rfl) ⟨(Nat.le_of_ble_eq_true rfl), (Nat.le_of_ble_eq_true rfl)⟩ rfl ?_
          refine Ct.cw H.2.1.1.eq.symm (ct_X5_told hc ?_)
          show WF _ E Po _ _ _ _ _ _ _
          refine WF.cw H.2.1.1.eq ?_
          refine r_iret dX9_number_58 rfl (Nat.le_of_ble_eq_true rfl) (Nat.le_of_ble_eq_true rfl) ?_
          exact hp
        · rw [if_pos h37] at hp
          refine r_aload_n (q := 41) dX9_number_40 rfl rfl rfl ?_
          refine r_getfield (q := 44) dX9_number_41 f_X9_number_32 H.1.1 rfl rfl ?_
          refine r_getfield (q := 47) dX9_number_44 f_X9_number_235 H.2.2.1.1 rfl rfl ?_
          refine r_goto (q := 58) dX9_number_47 (by decide) ?_
          refine r_iret dX9_number_58 rfl (Nat.le_of_ble_eq_true rfl) (Nat.le_of_ble_eq_true rfl) ?_
          exact hp
      · rw [if_pos h23] at hp
        refine r_aload_n (q := 27) dX9_number_26 rfl rfl rfl ?_
        refine r_getfield (q := 30) dX9_number_27 f_X9_number_25 H.1.1 rfl rfl ?_
        refine r_getfield (q := 33) dX9_number_30 f_X9_number_232 H.1.2.1 rfl rfl ?_
        refine r_iret dX9_number_33 rfl (Nat.le_of_ble_eq_true rfl) (Nat.le_of_ble_eq_true rfl) ?_
        exact hp
    · rw [if_neg h7] at hp
      exact r_throwS (i := 0) (by decide +kernel) th_nm (by decide) (fun _ h => List.mem_cons_of_mem _ h) th_IA tk_IA ti_IA rfl dX9_number_10 dX9_number_13 dX9_number_14 dX9_number_16 dX9_number_19 rfl (Nat.le_of_ble_eq_true rfl) (Nat.le_of_ble_eq_true rfl) (Nat.le_of_ble_eq_true rfl) (Nat.le_of_ble_eq_true rfl) (Nat.le_of_ble_eq_true rfl) (Nat.le_of_ble_eq_true rfl) (fun z hz => hp _ (H.sz hz) (Fr.id.sz hz))
