/-! ===== 39.masks: what the reference tells (rows laid by wip/whole/gen/make39.py) ===== -/
theorem ixB {x M : Int32} {n : Nat} (hM : M.toInt = n) (h : ¬ (x < 0 ∨ M < x)) : ∃ k, k ≤ n ∧ x = nI k := nI_of2 hM (fun z => h (Or.inl z)) (Int32.not_lt.mp (fun z => h (Or.inr z)))
theorem r_dconst0 {M : xM} {E : xE} {Po : xPo} {w0 w : xW} {pc q : Nat} {L : List (Option Value)} {st : List Value} {k n : Nat} (hd : decode (mC M) pc = .ok (.dconst 0, 1)) (hq : pc + 1 = q) (kk : WF M E Po w0 q L (.double 0 :: st) w k n) : WF M E Po w0 pc L st w k n := by
  subst hq; exact r_of (fun _ _ _ _ _ _ _ _ _ _ _ _ _ _ _ _ hx hb hl k => lv_dconst0 hx hb hd k) kk
theorem r_fconst0 {M : xM} {E : xE} {Po : xPo} {w0 w : xW} {pc q : Nat} {L : List (Option Value)} {st : List Value} {k n : Nat} (hd : decode (mC M) pc = .ok (.fconst 0, 1)) (hq : pc + 1 = q) (kk : WF M E Po w0 q L (.float 0 :: st) w k n) : WF M E Po w0 pc L st w k n := by
  subst hq; exact r_of (fun _ _ _ _ _ _ _ _ _ _ _ _ _ _ _ _ hx hb hl k => lv_fconst0 hx hb hd k) kk
set_option maxRecDepth 100000 in
set_option maxHeartbeats 4000000 in
theorem ct_X10_refusal {E : xE} {Po : xPo} {w : xW} {m : Nat} {d : xCo} {r : mRs} {o : Nat → Int32} {t : mTx} {z : Int32} (hp : if d.1 10 = 0 then Po (.inl (some (.int (0)))) (md E w m d r (upd o 2 1) t) else if z = 0 then Po (.inl (some (.int (d.1 11)))) (md E w m d r (upd o 2 0) t) else Po (.inl (some (.int (d.1 10)))) (md E w m d r (upd o 2 0) t)) : Ct M_X10_refusal E [.ref m, .int z] (md E w m d r o t) Po := by
  refine Ct.of (ws2 := xAll) (L := [some (.ref m), some (.int z)]) (by decide +kernel) rfl rfl (List.forall_mem_cons.mpr ⟨rfl, List.forall_mem_cons.mpr ⟨rfl, fun _ h => absurd h List.not_mem_nil⟩⟩) (Nat.le_of_ble_eq_true rfl) rfl ?_
  refine r_aload_n (q := 1) dX10_refusal_0 rfl rfl rfl ?_
  refine r_aload_n (q := 2) dX10_refusal_1 rfl rfl rfl ?_
  refine r_getfield (q := 5) dX10_refusal_2 f_X10_refusal_75 md_g0 rfl rfl ?_
  refine r_if_ne (q := 12) (q2 := 8) dX10_refusal_5 (by decide) rfl (fun h5 => ?_) (fun h5 => ?_)
  · rw [if_neg h5] at hp
    refine r_iconst (q := 13) (v := 0) dX10_refusal_12 rfl rfl ?_
    refine r_putfield (q := 16) dX10_refusal_13 f_X10_refusal_63 md_g0 rfl rfl (by exact Nat.le_of_ble_eq_true rfl) rfl ?_
    refine WF.cw (md_po (i := 2)) ?_
    refine r_aload_n (q := 17) dX10_refusal_16 rfl rfl rfl ?_
    refine r_getfield (q := 20) dX10_refusal_17 f_X10_refusal_63 md_g0 rfl rfl ?_
    refine r_if_le (q := 27) (q2 := 23) dX10_refusal_20 (by decide) rfl (fun _ => ?_) (fun h9 => absurd (show (0 : Int32) ≤ 0 by decide) h9)
    refine r_iload_n (q := 28) dX10_refusal_27 rfl rfl rfl ?_
    refine r_if_eq (q := 38) (q2 := 31) dX10_refusal_28 (by decide) rfl (fun h28 => ?_) (fun h28 => ?_)
    · rw [if_pos h28] at hp
      refine r_aload_n (q := 39) dX10_refusal_38 rfl rfl rfl ?_
      refine r_getfield (q := 42) dX10_refusal_39 f_X10_refusal_78 md_g0 rfl rfl ?_
      refine r_iret dX10_refusal_42 rfl (Nat.le_of_ble_eq_true rfl) (Nat.le_of_ble_eq_true rfl) ?_
      exact hp
    · rw [if_neg h28] at hp
      refine r_aload_n (q := 32) dX10_refusal_31 rfl rfl rfl ?_
      refine r_getfield (q := 35) dX10_refusal_32 f_X10_refusal_75 md_g0 rfl rfl ?_
      refine r_goto (q := 42) dX10_refusal_35 (by decide) ?_
      refine r_iret dX10_refusal_42 rfl (Nat.le_of_ble_eq_true rfl) (Nat.le_of_ble_eq_true rfl) ?_
      exact hp
  · rw [if_pos h5] at hp
    refine r_iconst (q := 9) (v := 1) dX10_refusal_8 rfl rfl ?_
    refine r_goto (q := 13) dX10_refusal_9 (by decide) ?_
    refine r_putfield (q := 16) dX10_refusal_13 f_X10_refusal_63 md_g0 rfl rfl (by exact Nat.le_of_ble_eq_true rfl) rfl ?_
    refine WF.cw (md_po (i := 2)) ?_
    refine r_aload_n (q := 17) dX10_refusal_16 rfl rfl rfl ?_
    refine r_getfield (q := 20) dX10_refusal_17 f_X10_refusal_63 md_g0 rfl rfl ?_
    refine r_if_le (q := 27) (q2 := 23) dX10_refusal_20 (by decide) rfl (fun h9 => absurd h9 (show ¬ ((1 : Int32) ≤ 0) by decide)) (fun _ => ?_)
    refine r_iconst (q := 24) (v := 0) dX10_refusal_23 rfl rfl ?_
    refine r_goto (q := 42) dX10_refusal_24 (by decide) ?_
    refine r_iret dX10_refusal_42 rfl (Nat.le_of_ble_eq_true rfl) (Nat.le_of_ble_eq_true rfl) ?_
    exact hp
set_option maxRecDepth 100000 in
set_option maxHeartbeats 4000000 in
theorem ct_X10_tubOf {E : xE} {Po : xPo} {w : xW} {m : Nat} {d : xCo} {r : mRs} {o : Nat → Int32} {t : mTx} {x y : Int32} (hc : inC d) (hp : if okT d x then (if y < 0 ∨ 6 < y then Po (.inl (some (.int (0)))) (md E w m d r (upd o 2 2) t) else if y = 4 then (if d.2.1 x.toNatClampNeg 3 = 0 then Po (.inl (some (.int (0)))) (md E w m d r (upd o 2 0) t) else Po (.inl (some (.int (d.2.1 x.toNatClampNeg y.toNatClampNeg)))) (md E w m d r (upd o 2 0) t)) else Po (.inl (some (.int (d.2.1 x.toNatClampNeg y.toNatClampNeg)))) (md E w m d r (upd o 2 0) t)) else Po (.inl (some (.int (0)))) (md E w m d r (upd o 2 1) t)) : Ct M_X10_tubOf E [.ref m, .int x, .int y] (md E w m d r o t) Po := by
  refine Ct.of (ws2 := xAll) (L := [some (.ref m), some (.int x), some (.int y)]) (by decide +kernel) rfl rfl (List.forall_mem_cons.mpr ⟨rfl, List.forall_mem_cons.mpr ⟨rfl, List.forall_mem_cons.mpr ⟨rfl, fun _ h => absurd h List.not_mem_nil⟩⟩⟩) (Nat.le_of_ble_eq_true rfl) rfl ?_
  refine r_aload_n (q := 1) dX10_tubOf_0 rfl rfl rfl ?_
  refine r_aload_n (q := 2) dX10_tubOf_1 rfl rfl rfl ?_
  refine r_iload_n (q := 3) dX10_tubOf_2 rfl rfl rfl ?_
  refine r_callV (q := 6) (ci := 12) (As := [_]) dX10_tubOf_3 s_X10_tubOf_89 md_g0 rfl rfl rfl (Nat.le_of_ble_eq_true rfl) rfl rfl rfl (Nat.le_of_ble_eq_true rfl) (Nat.le_of_ble_eq_true rfl) ⟨(Nat.le_of_ble_eq_true rfl), (Nat.le_of_ble_eq_true rfl)⟩ rfl ?_
  refine ct_X10_isTub hc (fun hx => ?_) (fun hx => ?_)
  · show WF _ E Po _ _ _ _ _ _ _
    rw [if_pos hx] at hp
    obtain ⟨j, hj, rfl⟩ := hx.ix
    rw [nI_cl (by omega)] at hp
    refine r_if_ne (q := 13) (q2 := 9) dX10_tubOf_6 (by decide) rfl (fun _ => ?_) (fun h9 => absurd h9 (by decide))
    refine r_iload_n (q := 14) dX10_tubOf_13 rfl rfl rfl ?_
    refine r_iconst (q := 15) (v := 0) dX10_tubOf_14 rfl rfl ?_
    refine r_bipush (q := 17) (v := 6) dX10_tubOf_15 (by decide) rfl ?_
    refine r_callS (q := 20) (As := [_, _, _]) dX10_tubOf_17 s_X10_tubOf_85 rfl rfl (Nat.le_of_ble_eq_true rfl) rfl rfl rfl (Nat.le_of_ble_eq_true rfl) (Nat.le_of_ble_eq_true rfl) ⟨(Nat.le_of_ble_eq_true rfl), (Nat.le_of_ble_eq_true rfl)⟩ rfl ?_
    refine ct_X10_in (fun hi => ?_) (fun hi => ?_)
    · show WF _ E Po _ _ _ _ _ _ _
      rw [if_neg hi] at hp
      obtain ⟨k, hk, rfl⟩ := ixB (n := 6) rfl hi
      rw [nI_cl (by omega)] at hp
      refine r_if_ne (q := 27) (q2 := 23) dX10_tubOf_20 (by decide) rfl (fun _ => ?_) (fun h9 => absurd h9 (by decide))
      refine r_iconst (q := 28) (v := 0) dX10_tubOf_27 rfl rfl ?_
      refine r_putfield (q := 31) dX10_tubOf_28 f_X10_tubOf_63 md_g0 rfl rfl (by exact Nat.le_of_ble_eq_true rfl) rfl ?_
      refine WF.cw (md_po (i := 2)) ?_
      refine r_aload_n (q := 32) dX10_tubOf_31 rfl rfl rfl ?_
      refine r_getfield (q := 35) dX10_tubOf_32 f_X10_tubOf_63 md_g0 rfl rfl ?_
      refine r_if_le (q := 40) (q2 := 38) dX10_tubOf_35 (by decide) rfl (fun _ => ?_) (fun h9 => absurd (show (0 : Int32) ≤ 0 by decide) h9)
      refine r_iload_n (q := 41) dX10_tubOf_40 rfl rfl rfl ?_
      refine r_iconst (q := 42) (v := 4) dX10_tubOf_41 rfl rfl ?_
      refine r_icmp_ne (q := 58) (q2 := 45) dX10_tubOf_42 (by decide) rfl (fun h42 => ?_) (fun h42 => ?_)
      · rw [if_neg h42] at hp
        refine r_aload_n (q := 59) dX10_tubOf_58 rfl rfl rfl ?_
        refine r_iload_n (q := 60) dX10_tubOf_59 rfl rfl rfl ?_
        refine r_iload_n (q := 61) dX10_tubOf_60 rfl rfl rfl ?_
        refine r_callV (q := 64) (ci := 12) (As := [_, _]) dX10_tubOf_61 s_X10_tubOf_93 md_g0 rfl rfl rfl (Nat.le_of_ble_eq_true rfl) rfl rfl rfl (Nat.le_of_ble_eq_true rfl) (Nat.le_of_ble_eq_true rfl) ⟨(Nat.le_of_ble_eq_true rfl), (Nat.le_of_ble_eq_true rfl)⟩ rfl ?_
        refine ct_X10_tub1 hj (by omega : k < 7) ?_
        show WF _ E Po _ _ _ _ _ _ _
        refine r_iret dX10_tubOf_64 rfl (Nat.le_of_ble_eq_true rfl) (Nat.le_of_ble_eq_true rfl) ?_
        exact hp
      · rw [if_pos h42] at hp
        refine r_aload_n (q := 46) dX10_tubOf_45 rfl rfl rfl ?_
        refine r_iload_n (q := 47) dX10_tubOf_46 rfl rfl rfl ?_
        refine r_iconst (q := 48) (v := 3) dX10_tubOf_47 rfl rfl ?_
        refine r_callV (q := 51) (ci := 12) (As := [_, _]) dX10_tubOf_48 s_X10_tubOf_93 md_g0 rfl rfl rfl (Nat.le_of_ble_eq_true rfl) rfl rfl rfl (Nat.le_of_ble_eq_true rfl) (Nat.le_of_ble_eq_true rfl) ⟨(Nat.le_of_ble_eq_true rfl), (Nat.le_of_ble_eq_true rfl)⟩ rfl ?_
        refine ct_X10_tub1 (k := 3) hj (by decide) ?_
        show WF _ E Po _ _ _ _ _ _ _
        refine r_if_ne (q := 58) (q2 := 54) dX10_tubOf_51 (by decide) rfl (fun h51 => ?_) (fun h51 => ?_)
        · rw [if_neg h51] at hp
          refine r_aload_n (q := 59) dX10_tubOf_58 rfl rfl rfl ?_
          refine r_iload_n (q := 60) dX10_tubOf_59 rfl rfl rfl ?_
          refine r_iload_n (q := 61) dX10_tubOf_60 rfl rfl rfl ?_
          refine r_callV (q := 64) (ci := 12) (As := [_, _]) dX10_tubOf_61 s_X10_tubOf_93 md_g0 rfl rfl rfl (Nat.le_of_ble_eq_true rfl) rfl rfl rfl (Nat.le_of_ble_eq_true rfl) (Nat.le_of_ble_eq_true rfl) ⟨(Nat.le_of_ble_eq_true rfl), (Nat.le_of_ble_eq_true rfl)⟩ rfl ?_
          refine ct_X10_tub1 hj (by omega : k < 7) ?_
          show WF _ E Po _ _ _ _ _ _ _
          refine r_iret dX10_tubOf_64 rfl (Nat.le_of_ble_eq_true rfl) (Nat.le_of_ble_eq_true rfl) ?_
          exact hp
        · rw [if_pos h51] at hp
          refine r_iconst (q := 55) (v := 0) dX10_tubOf_54 rfl rfl ?_
          refine r_goto (q := 64) dX10_tubOf_55 (by decide) ?_
          refine r_iret dX10_tubOf_64 rfl (Nat.le_of_ble_eq_true rfl) (Nat.le_of_ble_eq_true rfl) ?_
          exact hp
    · show WF _ E Po _ _ _ _ _ _ _
      rw [if_pos hi] at hp
      refine r_if_ne (q := 27) (q2 := 23) dX10_tubOf_20 (by decide) rfl (fun h9 => absurd rfl h9) (fun _ => ?_)
      refine r_iconst (q := 24) (v := 2) dX10_tubOf_23 rfl rfl ?_
      refine r_goto (q := 28) dX10_tubOf_24 (by decide) ?_
      refine r_putfield (q := 31) dX10_tubOf_28 f_X10_tubOf_63 md_g0 rfl rfl (by exact Nat.le_of_ble_eq_true rfl) rfl ?_
      refine WF.cw (md_po (i := 2)) ?_
      refine r_aload_n (q := 32) dX10_tubOf_31 rfl rfl rfl ?_
      refine r_getfield (q := 35) dX10_tubOf_32 f_X10_tubOf_63 md_g0 rfl rfl ?_
      refine r_if_le (q := 40) (q2 := 38) dX10_tubOf_35 (by decide) rfl (fun h9 => absurd h9 (show ¬ ((2 : Int32) ≤ 0) by decide)) (fun _ => ?_)
      refine r_iconst (q := 39) (v := 0) dX10_tubOf_38 rfl rfl ?_
      refine r_iret dX10_tubOf_39 rfl (Nat.le_of_ble_eq_true rfl) (Nat.le_of_ble_eq_true rfl) ?_
      exact hp
  · show WF _ E Po _ _ _ _ _ _ _
    rw [if_neg hx] at hp
    refine r_if_ne (q := 13) (q2 := 9) dX10_tubOf_6 (by decide) rfl (fun h9 => absurd rfl h9) (fun _ => ?_)
    refine r_iconst (q := 10) (v := 1) dX10_tubOf_9 rfl rfl ?_
    refine r_goto (q := 28) dX10_tubOf_10 (by decide) ?_
    refine r_putfield (q := 31) dX10_tubOf_28 f_X10_tubOf_63 md_g0 rfl rfl (by exact Nat.le_of_ble_eq_true rfl) rfl ?_
    refine WF.cw (md_po (i := 2)) ?_
    refine r_aload_n (q := 32) dX10_tubOf_31 rfl rfl rfl ?_
    refine r_getfield (q := 35) dX10_tubOf_32 f_X10_tubOf_63 md_g0 rfl rfl ?_
    refine r_if_le (q := 40) (q2 := 38) dX10_tubOf_35 (by decide) rfl (fun h9 => absurd h9 (show ¬ ((1 : Int32) ≤ 0) by decide)) (fun _ => ?_)
    refine r_iconst (q := 39) (v := 0) dX10_tubOf_38 rfl rfl ?_
    refine r_iret dX10_tubOf_39 rfl (Nat.le_of_ble_eq_true rfl) (Nat.le_of_ble_eq_true rfl) ?_
    exact hp
set_option maxRecDepth 100000 in
set_option maxHeartbeats 4000000 in
theorem ct_X10_torn {E : xE} {Po : xPo} {w : xW} {m : Nat} {d : xCo} {r : mRs} {o : Nat → Int32} {t : mTx} {x s : Int32} (hc : inC d) (hp : if okT d x then (if s < 0 ∨ 8 ≤ s then Po (.inl (some (.int (0)))) (md E w m d r (upd o 2 1) t) else if 0 ≤ tfS (d.2.1 x.toNatClampNeg 2) (8 - s.toNatClampNeg) s.toNatClampNeg then Po (.inl (some (.int (tfS (d.2.1 x.toNatClampNeg 2) (8 - s.toNatClampNeg) s.toNatClampNeg)))) (md E w m d r (upd o 2 0) t) else Po (.inl (some (.int (0)))) (md E w m d r (upd o 2 2) t)) else Po (.inl (some (.int (0)))) (md E w m d r (upd o 2 1) t)) : Ct M_X10_torn E [.ref m, .int x, .int s] (md E w m d r o t) Po := by
  refine Ct.of (ws2 := xAll) (L := [some (.ref m), some (.int x), some (.int s)]) (by decide +kernel) rfl rfl (List.forall_mem_cons.mpr ⟨rfl, List.forall_mem_cons.mpr ⟨rfl, List.forall_mem_cons.mpr ⟨rfl, fun _ h => absurd h List.not_mem_nil⟩⟩⟩) (Nat.le_of_ble_eq_true rfl) rfl ?_
  refine r_aload_n (q := 1) dX10_torn_0 rfl rfl rfl ?_
  refine r_aload_n (q := 2) dX10_torn_1 rfl rfl rfl ?_
  refine r_iload_n (q := 3) dX10_torn_2 rfl rfl rfl ?_
  refine r_iload_n (q := 4) dX10_torn_3 rfl rfl rfl ?_
  refine r_callV (q := 7) (ci := 12) (As := [_, _]) dX10_torn_4 s_X10_torn_119 md_g0 rfl rfl rfl (Nat.le_of_ble_eq_true rfl) rfl rfl rfl (Nat.le_of_ble_eq_true rfl) (Nat.le_of_ble_eq_true rfl) ⟨(Nat.le_of_ble_eq_true rfl), (Nat.le_of_ble_eq_true rfl)⟩ rfl ?_
  refine ct_X10_isSeam hc (fun hx hs => ?_) (fun hx hs => ?_) (fun hx => ?_)
  · show WF _ E Po _ _ _ _ _ _ _
    rw [if_pos hx, if_neg hs] at hp
    obtain ⟨j, hj, rfl⟩ := hx.ix
    obtain ⟨k, hk, rfl⟩ := ixOf (n := 8) (by decide) (fun z => hs (Or.inl z)) (fun z => hs (Or.inr z))
    rw [nI_cl (by omega), nI_cl (by omega)] at hp
    refine r_if_ne (q := 14) (q2 := 10) dX10_torn_7 (by decide) rfl (fun _ => ?_) (fun h9 => absurd h9 (by decide))
    refine r_aload_n (q := 15) dX10_torn_14 rfl rfl rfl ?_
    refine r_iload_n (q := 16) dX10_torn_15 rfl rfl rfl ?_
    refine r_iload_n (q := 17) dX10_torn_16 rfl rfl rfl ?_
    refine r_callV (q := 20) (ci := 12) (As := [_, _]) dX10_torn_17 s_X10_torn_122 md_g0 rfl rfl rfl (Nat.le_of_ble_eq_true rfl) rfl rfl rfl (Nat.le_of_ble_eq_true rfl) (Nat.le_of_ble_eq_true rfl) ⟨(Nat.le_of_ble_eq_true rfl), (Nat.le_of_ble_eq_true rfl)⟩ rfl ?_
    refine ct_X10_firstTorn hj (k := k) (by omega) ?_
    show WF _ E Po _ _ _ _ _ _ _
    refine r_if_ge (q := 27) (q2 := 23) dX10_torn_20 (by decide) rfl (fun h20 => ?_) (fun h20 => ?_)
    · rw [if_pos h20] at hp
      refine r_iconst (q := 28) (v := 0) dX10_torn_27 rfl rfl ?_
      refine r_putfield (q := 31) dX10_torn_28 f_X10_torn_63 md_g0 rfl rfl (by exact Nat.le_of_ble_eq_true rfl) rfl ?_
      refine WF.cw (md_po (i := 2)) ?_
      refine r_aload_n (q := 32) dX10_torn_31 rfl rfl rfl ?_
      refine r_getfield (q := 35) dX10_torn_32 f_X10_torn_63 md_g0 rfl rfl ?_
      refine r_if_le (q := 42) (q2 := 38) dX10_torn_35 (by decide) rfl (fun _ => ?_) (fun h9 => absurd (show (0 : Int32) ≤ 0 by decide) h9)
      refine r_aload_n (q := 43) dX10_torn_42 rfl rfl rfl ?_
      refine r_iload_n (q := 44) dX10_torn_43 rfl rfl rfl ?_
      refine r_iload_n (q := 45) dX10_torn_44 rfl rfl rfl ?_
      refine r_callV (q := 48) (ci := 12) (As := [_, _]) dX10_torn_45 s_X10_torn_122 md_g0 rfl rfl rfl (Nat.le_of_ble_eq_true rfl) rfl rfl rfl (Nat.le_of_ble_eq_true rfl) (Nat.le_of_ble_eq_true rfl) ⟨(Nat.le_of_ble_eq_true rfl), (Nat.le_of_ble_eq_true rfl)⟩ rfl ?_
      refine ct_X10_firstTorn hj (k := k) (by omega) ?_
      show WF _ E Po _ _ _ _ _ _ _
      refine r_iret dX10_torn_48 rfl (Nat.le_of_ble_eq_true rfl) (Nat.le_of_ble_eq_true rfl) ?_
      exact hp
    · rw [if_neg h20] at hp
      refine r_iconst (q := 24) (v := 2) dX10_torn_23 rfl rfl ?_
      refine r_goto (q := 28) dX10_torn_24 (by decide) ?_
      refine r_putfield (q := 31) dX10_torn_28 f_X10_torn_63 md_g0 rfl rfl (by exact Nat.le_of_ble_eq_true rfl) rfl ?_
      refine WF.cw (md_po (i := 2)) ?_
      refine r_aload_n (q := 32) dX10_torn_31 rfl rfl rfl ?_
      refine r_getfield (q := 35) dX10_torn_32 f_X10_torn_63 md_g0 rfl rfl ?_
      refine r_if_le (q := 42) (q2 := 38) dX10_torn_35 (by decide) rfl (fun h9 => absurd h9 (show ¬ ((2 : Int32) ≤ 0) by decide)) (fun _ => ?_)
      refine r_iconst (q := 39) (v := 0) dX10_torn_38 rfl rfl ?_
      refine r_goto (q := 48) dX10_torn_39 (by decide) ?_
      refine r_iret dX10_torn_48 rfl (Nat.le_of_ble_eq_true rfl) (Nat.le_of_ble_eq_true rfl) ?_
      exact hp
  · show WF _ E Po _ _ _ _ _ _ _
    rw [if_pos hx, if_pos hs] at hp
    refine r_if_ne (q := 14) (q2 := 10) dX10_torn_7 (by decide) rfl (fun h9 => absurd rfl h9) (fun _ => ?_)
    refine r_iconst (q := 11) (v := 1) dX10_torn_10 rfl rfl ?_
    refine r_goto (q := 28) dX10_torn_11 (by decide) ?_
    refine r_putfield (q := 31) dX10_torn_28 f_X10_torn_63 md_g0 rfl rfl (by exact Nat.le_of_ble_eq_true rfl) rfl ?_
    refine WF.cw (md_po (i := 2)) ?_
    refine r_aload_n (q := 32) dX10_torn_31 rfl rfl rfl ?_
    refine r_getfield (q := 35) dX10_torn_32 f_X10_torn_63 md_g0 rfl rfl ?_
    refine r_if_le (q := 42) (q2 := 38) dX10_torn_35 (by decide) rfl (fun h9 => absurd h9 (show ¬ ((1 : Int32) ≤ 0) by decide)) (fun _ => ?_)
    refine r_iconst (q := 39) (v := 0) dX10_torn_38 rfl rfl ?_
    refine r_goto (q := 48) dX10_torn_39 (by decide) ?_
    refine r_iret dX10_torn_48 rfl (Nat.le_of_ble_eq_true rfl) (Nat.le_of_ble_eq_true rfl) ?_
    exact hp
  · show WF _ E Po _ _ _ _ _ _ _
    rw [if_neg hx] at hp
    refine r_if_ne (q := 14) (q2 := 10) dX10_torn_7 (by decide) rfl (fun h9 => absurd rfl h9) (fun _ => ?_)
    refine r_iconst (q := 11) (v := 1) dX10_torn_10 rfl rfl ?_
    refine r_goto (q := 28) dX10_torn_11 (by decide) ?_
    refine r_putfield (q := 31) dX10_torn_28 f_X10_torn_63 md_g0 rfl rfl (by exact Nat.le_of_ble_eq_true rfl) rfl ?_
    refine WF.cw (md_po (i := 2)) ?_
    refine r_aload_n (q := 32) dX10_torn_31 rfl rfl rfl ?_
    refine r_getfield (q := 35) dX10_torn_32 f_X10_torn_63 md_g0 rfl rfl ?_
    refine r_if_le (q := 42) (q2 := 38) dX10_torn_35 (by decide) rfl (fun h9 => absurd h9 (show ¬ ((1 : Int32) ≤ 0) by decide)) (fun _ => ?_)
    refine r_iconst (q := 39) (v := 0) dX10_torn_38 rfl rfl ?_
    refine r_goto (q := 48) dX10_torn_39 (by decide) ?_
    refine r_iret dX10_torn_48 rfl (Nat.le_of_ble_eq_true rfl) (Nat.le_of_ble_eq_true rfl) ?_
    exact hp
set_option maxRecDepth 100000 in
set_option maxHeartbeats 4000000 in
theorem ct_X10_tentOf {E : xE} {Po : xPo} {w : xW} {m : Nat} {d : xCo} {r : mRs} {o : Nat → Int32} {t : mTx} {x y : Int32} (hc : inC d) (hp : if okU d x then (if y < 0 ∨ 4 < y then Po (.inl (some (.int (0)))) (md E w m d r (upd o 2 2) t) else if y = 3 then Po (.inl (some (.int (d.2.2.1 x.toNatClampNeg 4)))) (md E w m d r (upd o 2 0) t) else if y = 4 then Po (.inl (some (.int (d.2.2.1 x.toNatClampNeg 3)))) (md E w m d r (upd o 2 0) t) else Po (.inl (some (.int (d.2.2.1 x.toNatClampNeg y.toNatClampNeg)))) (md E w m d r (upd o 2 0) t)) else Po (.inl (some (.int (0)))) (md E w m d r (upd o 2 1) t)) : Ct M_X10_tentOf E [.ref m, .int x, .int y] (md E w m d r o t) Po := by
  refine Ct.of (ws2 := xAll) (L := [some (.ref m), some (.int x), some (.int y)]) (by decide +kernel) rfl rfl (List.forall_mem_cons.mpr ⟨rfl, List.forall_mem_cons.mpr ⟨rfl, List.forall_mem_cons.mpr ⟨rfl, fun _ h => absurd h List.not_mem_nil⟩⟩⟩) (Nat.le_of_ble_eq_true rfl) rfl ?_
  refine r_aload_n (q := 1) dX10_tentOf_0 rfl rfl rfl ?_
  refine r_aload_n (q := 2) dX10_tentOf_1 rfl rfl rfl ?_
  refine r_iload_n (q := 3) dX10_tentOf_2 rfl rfl rfl ?_
  refine r_callV (q := 6) (ci := 12) (As := [_]) dX10_tentOf_3 s_X10_tentOf_131 md_g0 rfl rfl rfl (Nat.le_of_ble_eq_true rfl) rfl rfl rfl (Nat.le_of_ble_eq_true rfl) (Nat.le_of_ble_eq_true rfl) ⟨(Nat.le_of_ble_eq_true rfl), (Nat.le_of_ble_eq_true rfl)⟩ rfl ?_
  refine ct_X10_isTent hc (fun hx => ?_) (fun hx => ?_)
  · show WF _ E Po _ _ _ _ _ _ _
    rw [if_pos hx] at hp
    obtain ⟨u, hu, rfl⟩ := hx.ix
    rw [nI_cl (by omega)] at hp
    refine r_if_ne (q := 13) (q2 := 9) dX10_tentOf_6 (by decide) rfl (fun _ => ?_) (fun h9 => absurd h9 (by decide))
    refine r_iload_n (q := 14) dX10_tentOf_13 rfl rfl rfl ?_
    refine r_iconst (q := 15) (v := 0) dX10_tentOf_14 rfl rfl ?_
    refine r_iconst (q := 16) (v := 4) dX10_tentOf_15 rfl rfl ?_
    refine r_callS (q := 19) (As := [_, _, _]) dX10_tentOf_16 s_X10_tentOf_85 rfl rfl (Nat.le_of_ble_eq_true rfl) rfl rfl rfl (Nat.le_of_ble_eq_true rfl) (Nat.le_of_ble_eq_true rfl) ⟨(Nat.le_of_ble_eq_true rfl), (Nat.le_of_ble_eq_true rfl)⟩ rfl ?_
    refine ct_X10_in (fun hi => ?_) (fun hi => ?_)
    · show WF _ E Po _ _ _ _ _ _ _
      rw [if_neg hi] at hp
      obtain ⟨k, hk, rfl⟩ := ixB (n := 4) rfl hi
      rw [nI_cl (by omega)] at hp
      refine r_if_ne (q := 26) (q2 := 22) dX10_tentOf_19 (by decide) rfl (fun _ => ?_) (fun h9 => absurd h9 (by decide))
      refine r_iconst (q := 27) (v := 0) dX10_tentOf_26 rfl rfl ?_
      refine r_putfield (q := 30) dX10_tentOf_27 f_X10_tentOf_63 md_g0 rfl rfl (by exact Nat.le_of_ble_eq_true rfl) rfl ?_
      refine WF.cw (md_po (i := 2)) ?_
      refine r_aload_n (q := 31) dX10_tentOf_30 rfl rfl rfl ?_
      refine r_getfield (q := 34) dX10_tentOf_31 f_X10_tentOf_63 md_g0 rfl rfl ?_
      refine r_if_le (q := 39) (q2 := 37) dX10_tentOf_34 (by decide) rfl (fun _ => ?_) (fun h9 => absurd (show (0 : Int32) ≤ 0 by decide) h9)
      refine r_iload_n (q := 40) dX10_tentOf_39 rfl rfl rfl ?_
      refine r_iconst (q := 41) (v := 3) dX10_tentOf_40 rfl rfl ?_
      refine r_icmp_ne (q := 53) (q2 := 44) dX10_tentOf_41 (by decide) rfl (fun h41 => ?_) (fun h41 => ?_)
      · rw [if_neg h41] at hp
        refine r_iload_n (q := 54) dX10_tentOf_53 rfl rfl rfl ?_
        refine r_iconst (q := 55) (v := 4) dX10_tentOf_54 rfl rfl ?_
        refine r_icmp_ne (q := 67) (q2 := 58) dX10_tentOf_55 (by decide) rfl (fun h55 => ?_) (fun h55 => ?_)
        · rw [if_neg h55] at hp
          refine r_aload_n (q := 68) dX10_tentOf_67 rfl rfl rfl ?_
          refine r_iload_n (q := 69) dX10_tentOf_68 rfl rfl rfl ?_
          refine r_iload_n (q := 70) dX10_tentOf_69 rfl rfl rfl ?_
          refine r_callV (q := 73) (ci := 12) (As := [_, _]) dX10_tentOf_70 s_X10_tentOf_134 md_g0 rfl rfl rfl (Nat.le_of_ble_eq_true rfl) rfl rfl rfl (Nat.le_of_ble_eq_true rfl) (Nat.le_of_ble_eq_true rfl) ⟨(Nat.le_of_ble_eq_true rfl), (Nat.le_of_ble_eq_true rfl)⟩ rfl ?_
          refine ct_X10_tent1 hu (by omega : k < 11) ?_
          show WF _ E Po _ _ _ _ _ _ _
          refine r_iret dX10_tentOf_73 rfl (Nat.le_of_ble_eq_true rfl) (Nat.le_of_ble_eq_true rfl) ?_
          exact hp
        · rw [if_pos h55] at hp
          refine r_aload_n (q := 59) dX10_tentOf_58 rfl rfl rfl ?_
          refine r_iload_n (q := 60) dX10_tentOf_59 rfl rfl rfl ?_
          refine r_iconst (q := 61) (v := 3) dX10_tentOf_60 rfl rfl ?_
          refine r_callV (q := 64) (ci := 12) (As := [_, _]) dX10_tentOf_61 s_X10_tentOf_134 md_g0 rfl rfl rfl (Nat.le_of_ble_eq_true rfl) rfl rfl rfl (Nat.le_of_ble_eq_true rfl) (Nat.le_of_ble_eq_true rfl) ⟨(Nat.le_of_ble_eq_true rfl), (Nat.le_of_ble_eq_true rfl)⟩ rfl ?_
          refine ct_X10_tent1 (k := 3) hu (by decide) ?_
          show WF _ E Po _ _ _ _ _ _ _
          refine r_goto (q := 73) dX10_tentOf_64 (by decide) ?_
          refine r_iret dX10_tentOf_73 rfl (Nat.le_of_ble_eq_true rfl) (Nat.le_of_ble_eq_true rfl) ?_
          exact hp
      · rw [if_pos h41] at hp
        refine r_aload_n (q := 45) dX10_tentOf_44 rfl rfl rfl ?_
        refine r_iload_n (q := 46) dX10_tentOf_45 rfl rfl rfl ?_
        refine r_iconst (q := 47) (v := 4) dX10_tentOf_46 rfl rfl ?_
        refine r_callV (q := 50) (ci := 12) (As := [_, _]) dX10_tentOf_47 s_X10_tentOf_134 md_g0 rfl rfl rfl (Nat.le_of_ble_eq_true rfl) rfl rfl rfl (Nat.le_of_ble_eq_true rfl) (Nat.le_of_ble_eq_true rfl) ⟨(Nat.le_of_ble_eq_true rfl), (Nat.le_of_ble_eq_true rfl)⟩ rfl ?_
        refine ct_X10_tent1 (k := 4) hu (by decide) ?_
        show WF _ E Po _ _ _ _ _ _ _
        refine r_goto (q := 73) dX10_tentOf_50 (by decide) ?_
        refine r_iret dX10_tentOf_73 rfl (Nat.le_of_ble_eq_true rfl) (Nat.le_of_ble_eq_true rfl) ?_
        exact hp
    · show WF _ E Po _ _ _ _ _ _ _
      rw [if_pos hi] at hp
      refine r_if_ne (q := 26) (q2 := 22) dX10_tentOf_19 (by decide) rfl (fun h9 => absurd rfl h9) (fun _ => ?_)
      refine r_iconst (q := 23) (v := 2) dX10_tentOf_22 rfl rfl ?_
      refine r_goto (q := 27) dX10_tentOf_23 (by decide) ?_
      refine r_putfield (q := 30) dX10_tentOf_27 f_X10_tentOf_63 md_g0 rfl rfl (by exact Nat.le_of_ble_eq_true rfl) rfl ?_
      refine WF.cw (md_po (i := 2)) ?_
      refine r_aload_n (q := 31) dX10_tentOf_30 rfl rfl rfl ?_
      refine r_getfield (q := 34) dX10_tentOf_31 f_X10_tentOf_63 md_g0 rfl rfl ?_
      refine r_if_le (q := 39) (q2 := 37) dX10_tentOf_34 (by decide) rfl (fun h9 => absurd h9 (show ¬ ((2 : Int32) ≤ 0) by decide)) (fun _ => ?_)
      refine r_iconst (q := 38) (v := 0) dX10_tentOf_37 rfl rfl ?_
      refine r_iret dX10_tentOf_38 rfl (Nat.le_of_ble_eq_true rfl) (Nat.le_of_ble_eq_true rfl) ?_
      exact hp
  · show WF _ E Po _ _ _ _ _ _ _
    rw [if_neg hx] at hp
    refine r_if_ne (q := 13) (q2 := 9) dX10_tentOf_6 (by decide) rfl (fun h9 => absurd rfl h9) (fun _ => ?_)
    refine r_iconst (q := 10) (v := 1) dX10_tentOf_9 rfl rfl ?_
    refine r_goto (q := 27) dX10_tentOf_10 (by decide) ?_
    refine r_putfield (q := 30) dX10_tentOf_27 f_X10_tentOf_63 md_g0 rfl rfl (by exact Nat.le_of_ble_eq_true rfl) rfl ?_
    refine WF.cw (md_po (i := 2)) ?_
    refine r_aload_n (q := 31) dX10_tentOf_30 rfl rfl rfl ?_
    refine r_getfield (q := 34) dX10_tentOf_31 f_X10_tentOf_63 md_g0 rfl rfl ?_
    refine r_if_le (q := 39) (q2 := 37) dX10_tentOf_34 (by decide) rfl (fun h9 => absurd h9 (show ¬ ((1 : Int32) ≤ 0) by decide)) (fun _ => ?_)
    refine r_iconst (q := 38) (v := 0) dX10_tentOf_37 rfl rfl ?_
    refine r_iret dX10_tentOf_38 rfl (Nat.le_of_ble_eq_true rfl) (Nat.le_of_ble_eq_true rfl) ?_
    exact hp
set_option maxRecDepth 100000 in
set_option maxHeartbeats 4000000 in
theorem ct_X10_waiting {E : xE} {Po : xPo} {w : xW} {m : Nat} {d : xCo} {r : mRs} {o : Nat → Int32} {t : mTx} {x y : Int32} (hc : inC d) (hp : if okU d x then (if y < 0 ∨ d.2.2.1 x.toNatClampNeg 4 - 1 < y then Po (.inl (some (.int (0)))) (md E w m d r (upd o 2 2) t) else Po (.inl (some (.int (d.2.2.1 x.toNatClampNeg (5 + y.toNatClampNeg))))) (md E w m d r (upd o 2 0) t)) else Po (.inl (some (.int (0)))) (md E w m d r (upd o 2 1) t)) : Ct M_X10_waiting E [.ref m, .int x, .int y] (md E w m d r o t) Po := by
  refine Ct.of (ws2 := xAll) (L := [some (.ref m), some (.int x), some (.int y)]) (by decide +kernel) rfl rfl (List.forall_mem_cons.mpr ⟨rfl, List.forall_mem_cons.mpr ⟨rfl, List.forall_mem_cons.mpr ⟨rfl, fun _ h => absurd h List.not_mem_nil⟩⟩⟩) (Nat.le_of_ble_eq_true rfl) rfl ?_
  refine r_aload_n (q := 1) dX10_waiting_0 rfl rfl rfl ?_
  refine r_aload_n (q := 2) dX10_waiting_1 rfl rfl rfl ?_
  refine r_iload_n (q := 3) dX10_waiting_2 rfl rfl rfl ?_
  refine r_callV (q := 6) (ci := 12) (As := [_]) dX10_waiting_3 s_X10_waiting_131 md_g0 rfl rfl rfl (Nat.le_of_ble_eq_true rfl) rfl rfl rfl (Nat.le_of_ble_eq_true rfl) (Nat.le_of_ble_eq_true rfl) ⟨(Nat.le_of_ble_eq_true rfl), (Nat.le_of_ble_eq_true rfl)⟩ rfl ?_
  refine ct_X10_isTent hc (fun hx => ?_) (fun hx => ?_)
  · show WF _ E Po _ _ _ _ _ _ _
    rw [if_pos hx] at hp
    obtain ⟨u, hu, rfl⟩ := hx.ix
    rw [nI_cl (by omega)] at hp
    refine r_if_ne (q := 13) (q2 := 9) dX10_waiting_6 (by decide) rfl (fun _ => ?_) (fun h9 => absurd h9 (by decide))
    refine r_iload_n (q := 14) dX10_waiting_13 rfl rfl rfl ?_
    refine r_iconst (q := 15) (v := 0) dX10_waiting_14 rfl rfl ?_
    refine r_aload_n (q := 16) dX10_waiting_15 rfl rfl rfl ?_
    refine r_iload_n (q := 17) dX10_waiting_16 rfl rfl rfl ?_
    refine r_iconst (q := 18) (v := 4) dX10_waiting_17 rfl rfl ?_
    refine r_callV (q := 21) (ci := 12) (As := [_, _]) dX10_waiting_18 s_X10_waiting_134 md_g0 rfl rfl rfl (Nat.le_of_ble_eq_true rfl) rfl rfl rfl (Nat.le_of_ble_eq_true rfl) (Nat.le_of_ble_eq_true rfl) ⟨(Nat.le_of_ble_eq_true rfl), (Nat.le_of_ble_eq_true rfl)⟩ rfl ?_
    refine ct_X10_tent1 (k := 4) hu (by decide) ?_
    show WF _ E Po _ _ _ _ _ _ _
    refine r_iconst (q := 22) (v := 1) dX10_waiting_21 rfl rfl ?_
    refine r_isub (q := 23) dX10_waiting_22 rfl ?_
    refine r_callS (q := 26) (As := [_, _, _]) dX10_waiting_23 s_X10_waiting_85 rfl rfl (Nat.le_of_ble_eq_true rfl) rfl rfl rfl (Nat.le_of_ble_eq_true rfl) (Nat.le_of_ble_eq_true rfl) ⟨(Nat.le_of_ble_eq_true rfl), (Nat.le_of_ble_eq_true rfl)⟩ rfl ?_
    refine ct_X10_in (fun hi => ?_) (fun hi => ?_)
    · show WF _ E Po _ _ _ _ _ _ _
      rw [if_neg hi] at hp
      obtain ⟨n, hn, en⟩ := hc.2.2.2 u hu
      obtain ⟨k, hk, rfl⟩ : ∃ k, k < 6 ∧ y = nI k := by
        rw [en] at hi
        have h3 := (in_cnt (K := 6) hn (by decide)).mp hi
        exact ixOf (by decide) h3.1 h3.2.2
      rw [nI_cl (by omega)] at hp
      refine r_if_ne (q := 33) (q2 := 29) dX10_waiting_26 (by decide) rfl (fun _ => ?_) (fun h9 => absurd h9 (by decide))
      refine r_iconst (q := 34) (v := 0) dX10_waiting_33 rfl rfl ?_
      refine r_putfield (q := 37) dX10_waiting_34 f_X10_waiting_63 md_g0 rfl rfl (by exact Nat.le_of_ble_eq_true rfl) rfl ?_
      refine WF.cw (md_po (i := 2)) ?_
      refine r_aload_n (q := 38) dX10_waiting_37 rfl rfl rfl ?_
      refine r_getfield (q := 41) dX10_waiting_38 f_X10_waiting_63 md_g0 rfl rfl ?_
      refine r_if_le (q := 48) (q2 := 44) dX10_waiting_41 (by decide) rfl (fun _ => ?_) (fun h9 => absurd (show (0 : Int32) ≤ 0 by decide) h9)
      refine r_aload_n (q := 49) dX10_waiting_48 rfl rfl rfl ?_
      refine r_iload_n (q := 50) dX10_waiting_49 rfl rfl rfl ?_
      refine r_iconst (q := 51) (v := 5) dX10_waiting_50 rfl rfl ?_
      refine r_iload_n (q := 52) dX10_waiting_51 rfl rfl rfl ?_
      refine r_iadd (q := 53) dX10_waiting_52 rfl ?_
      rw [show (5 : Int32) + nI k = nI (5 + k) from nI_add 5 k]
      refine r_callV (q := 56) (ci := 12) (As := [_, _]) dX10_waiting_53 s_X10_waiting_134 md_g0 rfl rfl rfl (Nat.le_of_ble_eq_true rfl) rfl rfl rfl (Nat.le_of_ble_eq_true rfl) (Nat.le_of_ble_eq_true rfl) ⟨(Nat.le_of_ble_eq_true rfl), (Nat.le_of_ble_eq_true rfl)⟩ rfl ?_
      refine ct_X10_tent1 hu (by omega : 5 + k < 11) ?_
      show WF _ E Po _ _ _ _ _ _ _
      refine r_iret dX10_waiting_56 rfl (Nat.le_of_ble_eq_true rfl) (Nat.le_of_ble_eq_true rfl) ?_
      exact hp
    · show WF _ E Po _ _ _ _ _ _ _
      rw [if_pos hi] at hp
      refine r_if_ne (q := 33) (q2 := 29) dX10_waiting_26 (by decide) rfl (fun h9 => absurd rfl h9) (fun _ => ?_)
      refine r_iconst (q := 30) (v := 2) dX10_waiting_29 rfl rfl ?_
      refine r_goto (q := 34) dX10_waiting_30 (by decide) ?_
      refine r_putfield (q := 37) dX10_waiting_34 f_X10_waiting_63 md_g0 rfl rfl (by exact Nat.le_of_ble_eq_true rfl) rfl ?_
      refine WF.cw (md_po (i := 2)) ?_
      refine r_aload_n (q := 38) dX10_waiting_37 rfl rfl rfl ?_
      refine r_getfield (q := 41) dX10_waiting_38 f_X10_waiting_63 md_g0 rfl rfl ?_
      refine r_if_le (q := 48) (q2 := 44) dX10_waiting_41 (by decide) rfl (fun h9 => absurd h9 (show ¬ ((2 : Int32) ≤ 0) by decide)) (fun _ => ?_)
      refine r_iconst (q := 45) (v := 0) dX10_waiting_44 rfl rfl ?_
      refine r_goto (q := 56) dX10_waiting_45 (by decide) ?_
      refine r_iret dX10_waiting_56 rfl (Nat.le_of_ble_eq_true rfl) (Nat.le_of_ble_eq_true rfl) ?_
      exact hp
  · show WF _ E Po _ _ _ _ _ _ _
    rw [if_neg hx] at hp
    refine r_if_ne (q := 13) (q2 := 9) dX10_waiting_6 (by decide) rfl (fun h9 => absurd rfl h9) (fun _ => ?_)
    refine r_iconst (q := 10) (v := 1) dX10_waiting_9 rfl rfl ?_
    refine r_goto (q := 34) dX10_waiting_10 (by decide) ?_
    refine r_putfield (q := 37) dX10_waiting_34 f_X10_waiting_63 md_g0 rfl rfl (by exact Nat.le_of_ble_eq_true rfl) rfl ?_
    refine WF.cw (md_po (i := 2)) ?_
    refine r_aload_n (q := 38) dX10_waiting_37 rfl rfl rfl ?_
    refine r_getfield (q := 41) dX10_waiting_38 f_X10_waiting_63 md_g0 rfl rfl ?_
    refine r_if_le (q := 48) (q2 := 44) dX10_waiting_41 (by decide) rfl (fun h9 => absurd h9 (show ¬ ((1 : Int32) ≤ 0) by decide)) (fun _ => ?_)
    refine r_iconst (q := 45) (v := 0) dX10_waiting_44 rfl rfl ?_
    refine r_goto (q := 56) dX10_waiting_45 (by decide) ?_
    refine r_iret dX10_waiting_56 rfl (Nat.le_of_ble_eq_true rfl) (Nat.le_of_ble_eq_true rfl) ?_
    exact hp
set_option maxRecDepth 100000 in
set_option maxHeartbeats 4000000 in
theorem ct_X10_heaterOf {E : xE} {Po : xPo} {w : xW} {m : Nat} {d : xCo} {r : mRs} {o : Nat → Int32} {t : mTx} {x z : Int32} (hc : inC d) (hp : if okG d x then (if z = 0 then Po (.inl (some (.int (d.2.2.2 x.toNatClampNeg 1)))) (md E w m d r (upd o 2 0) t) else Po (.inl (some (.int (d.2.2.2 x.toNatClampNeg 0)))) (md E w m d r (upd o 2 0) t)) else Po (.inl (some (.int (0)))) (md E w m d r (upd o 2 1) t)) : Ct M_X10_heaterOf E [.ref m, .int x, .int z] (md E w m d r o t) Po := by
  refine Ct.of (ws2 := xAll) (L := [some (.ref m), some (.int x), some (.int z)]) (by decide +kernel) rfl rfl (List.forall_mem_cons.mpr ⟨rfl, List.forall_mem_cons.mpr ⟨rfl, List.forall_mem_cons.mpr ⟨rfl, fun _ h => absurd h List.not_mem_nil⟩⟩⟩) (Nat.le_of_ble_eq_true rfl) rfl ?_
  refine r_aload_n (q := 1) dX10_heaterOf_0 rfl rfl rfl ?_
  refine r_aload_n (q := 2) dX10_heaterOf_1 rfl rfl rfl ?_
  refine r_iload_n (q := 3) dX10_heaterOf_2 rfl rfl rfl ?_
  refine r_callV (q := 6) (ci := 12) (As := [_]) dX10_heaterOf_3 s_X10_heaterOf_149 md_g0 rfl rfl rfl (Nat.le_of_ble_eq_true rfl) rfl rfl rfl (Nat.le_of_ble_eq_true rfl) (Nat.le_of_ble_eq_true rfl) ⟨(Nat.le_of_ble_eq_true rfl), (Nat.le_of_ble_eq_true rfl)⟩ rfl ?_
  refine ct_X10_isHeater hc (fun hx => ?_) (fun hx => ?_)
  · show WF _ E Po _ _ _ _ _ _ _
    rw [if_pos hx] at hp
    obtain ⟨g, hg, rfl⟩ := hx.ix
    rw [nI_cl (by omega)] at hp
    refine r_if_eq (q := 13) (q2 := 9) dX10_heaterOf_6 (by decide) rfl (fun h9 => absurd h9 (by decide)) (fun _ => ?_)
    refine r_iconst (q := 10) (v := 0) dX10_heaterOf_9 rfl rfl ?_
    refine r_goto (q := 14) dX10_heaterOf_10 (by decide) ?_
    refine r_putfield (q := 17) dX10_heaterOf_14 f_X10_heaterOf_63 md_g0 rfl rfl (by exact Nat.le_of_ble_eq_true rfl) rfl ?_
    refine WF.cw (md_po (i := 2)) ?_
    refine r_aload_n (q := 18) dX10_heaterOf_17 rfl rfl rfl ?_
    refine r_getfield (q := 21) dX10_heaterOf_18 f_X10_heaterOf_63 md_g0 rfl rfl ?_
    refine r_if_le (q := 28) (q2 := 24) dX10_heaterOf_21 (by decide) rfl (fun _ => ?_) (fun h9 => absurd (show (0 : Int32) ≤ 0 by decide) h9)
    refine r_iload_n (q := 29) dX10_heaterOf_28 rfl rfl rfl ?_
    refine r_if_eq (q := 40) (q2 := 32) dX10_heaterOf_29 (by decide) rfl (fun h29 => ?_) (fun h29 => ?_)
    · rw [if_pos h29] at hp
      refine r_aload_n (q := 41) dX10_heaterOf_40 rfl rfl rfl ?_
      refine r_iload_n (q := 42) dX10_heaterOf_41 rfl rfl rfl ?_
      refine r_callV (q := 45) (ci := 12) (As := [_]) dX10_heaterOf_42 s_X10_heaterOf_155 md_g0 rfl rfl rfl (Nat.le_of_ble_eq_true rfl) rfl rfl rfl (Nat.le_of_ble_eq_true rfl) (Nat.le_of_ble_eq_true rfl) ⟨(Nat.le_of_ble_eq_true rfl), (Nat.le_of_ble_eq_true rfl)⟩ rfl ?_
      refine ct_X10_tentOfHeater hg ?_
      show WF _ E Po _ _ _ _ _ _ _
      refine r_iret dX10_heaterOf_45 rfl (Nat.le_of_ble_eq_true rfl) (Nat.le_of_ble_eq_true rfl) ?_
      exact hp
    · rw [if_neg h29] at hp
      refine r_aload_n (q := 33) dX10_heaterOf_32 rfl rfl rfl ?_
      refine r_iload_n (q := 34) dX10_heaterOf_33 rfl rfl rfl ?_
      refine r_callV (q := 37) (ci := 12) (As := [_]) dX10_heaterOf_34 s_X10_heaterOf_152 md_g0 rfl rfl rfl (Nat.le_of_ble_eq_true rfl) rfl rfl rfl (Nat.le_of_ble_eq_true rfl) (Nat.le_of_ble_eq_true rfl) ⟨(Nat.le_of_ble_eq_true rfl), (Nat.le_of_ble_eq_true rfl)⟩ rfl ?_
      refine ct_X10_gasOf hg ?_
      show WF _ E Po _ _ _ _ _ _ _
      refine r_goto (q := 45) dX10_heaterOf_37 (by decide) ?_
      refine r_iret dX10_heaterOf_45 rfl (Nat.le_of_ble_eq_true rfl) (Nat.le_of_ble_eq_true rfl) ?_
      exact hp
  · show WF _ E Po _ _ _ _ _ _ _
    rw [if_neg hx] at hp
    refine r_if_eq (q := 13) (q2 := 9) dX10_heaterOf_6 (by decide) rfl (fun _ => ?_) (fun h9 => absurd rfl h9)
    refine r_iconst (q := 14) (v := 1) dX10_heaterOf_13 rfl rfl ?_
    refine r_putfield (q := 17) dX10_heaterOf_14 f_X10_heaterOf_63 md_g0 rfl rfl (by exact Nat.le_of_ble_eq_true rfl) rfl ?_
    refine WF.cw (md_po (i := 2)) ?_
    refine r_aload_n (q := 18) dX10_heaterOf_17 rfl rfl rfl ?_
    refine r_getfield (q := 21) dX10_heaterOf_18 f_X10_heaterOf_63 md_g0 rfl rfl ?_
    refine r_if_le (q := 28) (q2 := 24) dX10_heaterOf_21 (by decide) rfl (fun h9 => absurd h9 (show ¬ ((1 : Int32) ≤ 0) by decide)) (fun _ => ?_)
    refine r_iconst (q := 25) (v := 0) dX10_heaterOf_24 rfl rfl ?_
    refine r_goto (q := 45) dX10_heaterOf_25 (by decide) ?_
    refine r_iret dX10_heaterOf_45 rfl (Nat.le_of_ble_eq_true rfl) (Nat.le_of_ble_eq_true rfl) ?_
    exact hp
def hmF (z : Int32) : Nat → Int32 → Nat → Nat
  | 0, _, k => k
  | n + 1, s, k => if 38 ≤ s then k else hmF z n (s + 12 / z) (k + 1)
def hmB (z : Int32) : Nat → Int32 → Bool
  | 0, s => decide (38 ≤ s)
  | n + 1, s => decide (38 ≤ s) || hmB z n (s + 12 / z)
theorem hmF_ge {z s : Int32} {n k : Nat} (h : 38 ≤ s) : hmF z n s k = k := by
  cases n with
  | zero => rfl
  | succ n => exact if_pos h
theorem hm_ok {z y : Int32} (h1 : ¬ (z < 1 ∨ 3 < z)) (h2 : ¬ (y < 10 ∨ 60 < y)) : ¬ z = 0 ∧ hmB z 30 y = true ∧ ∃ a b, a < 3 ∧ b < 51 ∧ z = nI (a + 1) ∧ y = nI (b + 10) := by
  obtain ⟨a, a1, a2, rfl⟩ := ixR (m := 3) (by decide) (fun q => h1 (Or.inl q)) (Int32.not_lt.mp (fun q => h1 (Or.inr q)))
  obtain ⟨b, b1, b2, rfl⟩ := ixR (m := 60) (by decide) (fun q => h2 (Or.inl (by
    rw [Int32.lt_iff_toInt_lt] at q ⊢
    rw [show (1 : Int32).toInt = 1 from rfl] at q
    rw [show (10 : Int32).toInt = 10 from rfl]
    omega))) (Int32.not_lt.mp (fun q => h2 (Or.inr q)))
  have b3 : 10 ≤ b := by
    have : ¬ b < 10 := fun q => h2 (Or.inl (nI_lt (a := b) (b := 10) q (by decide)))
    omega
  refine ⟨nI_ne0 (by omega) (by omega), ?_, a - 1, b - 10, by omega, by omega, by rw [show a - 1 + 1 = a by omega], by rw [show b - 10 + 10 = b by omega]⟩
  have key : ∀ a, a < 3 → ∀ b, b < 51 → hmB (nI (a + 1)) 30 (nI (b + 10)) = true := by decide +kernel
  have := key (a - 1) (by omega) (b - 10) (by omega)
  rw [show a - 1 + 1 = a by omega, show b - 10 + 10 = b by omega] at this
  exact this
set_option maxRecDepth 100000 in
set_option maxHeartbeats 4000000 in
theorem lp_X10_heatsIn {E : xE} {Po : xPo} {w0 w : xW} {m : Nat} {d : xCo} {r : mRs} {o : Nat → Int32} {t : mTx} {z y : Int32} (hz : ¬ z = 0) (n9 : Nat) : ∀ (n : Nat) (s : Int32) (k : Nat) (hb : hmB z n s = true) (hp : Po (.inl (some (.int (nI (hmF z n s k))))) (md E w m d r o t)) (hn9 : n < n9), WF M_X10_heatsIn E Po w0 43 [some (.ref m), some (.int z), some (.int y), some (.int (nI k)), some (.int s)] [] (md E w m d r o t) 0 0 := by
  induction n9 with
  | zero => intro n s k hb hp hn9; exact absurd hn9 (Nat.not_lt_zero _)
  | succ n9 ih =>
    intro n s k hb hp hn9
    refine r_iload (q := 45) dX10_heatsIn_43 rfl rfl ?_
    refine r_bipush (q := 47) (v := 38) dX10_heatsIn_45 (by decide) rfl ?_
    refine r_icmp_ge (q := 65) (q2 := 50) dX10_heatsIn_47 (by decide) rfl (fun h47 => ?_) (fun h47 => ?_)
    · rw [hmF_ge h47] at hp
      refine r_iload_n (q := 66) dX10_heatsIn_65 rfl rfl rfl ?_
      refine r_iret dX10_heatsIn_66 rfl (Nat.le_of_ble_eq_true rfl) (Nat.le_of_ble_eq_true rfl) ?_
      exact hp
    · obtain ⟨n2, rfl⟩ : ∃ n2, n = n2 + 1 := by
        cases n with
        | zero => exact absurd (of_decide_eq_true hb) h47
        | succ n => exact ⟨n, rfl⟩
      rw [hmF, if_neg h47] at hp
      have hb2 : hmB z n2 (s + 12 / z) = true := by
        rw [hmB, Bool.or_eq_true] at hb
        exact hb.resolve_left (fun q => h47 (of_decide_eq_true q))
      refine r_iinc (q := 53) dX10_heatsIn_50 rfl (Nat.le_of_ble_eq_true rfl) (xone_of rfl) rfl ?_
      rw [show nI k + Int32.ofInt 1 = nI (k + 1) from nI_1 k]
      refine r_iload (q := 55) dX10_heatsIn_53 rfl rfl ?_
      refine r_bipush (q := 57) (v := 12) dX10_heatsIn_55 (by decide) rfl ?_
      refine r_iload_n (q := 58) dX10_heatsIn_57 rfl rfl rfl ?_
      refine r_idiv (q := 59) dX10_heatsIn_58 hz rfl ?_
      refine r_iadd (q := 60) dX10_heatsIn_59 rfl ?_
      refine r_istore (q := 62) dX10_heatsIn_60 (Nat.le_of_ble_eq_true rfl) (xone_of rfl) rfl ?_
      refine r_goto (q := 43) dX10_heatsIn_62 (by decide) ?_
      exact ih n2 _ _ hb2 hp (by omega)
set_option maxRecDepth 100000 in
set_option maxHeartbeats 4000000 in
theorem ct_X10_heatsIn {E : xE} {Po : xPo} {w : xW} {m : Nat} {d : xCo} {r : mRs} {o : Nat → Int32} {t : mTx} {z y : Int32} (hp : if z < 1 ∨ 3 < z then Po (.inl (some (.int (0)))) (md E w m d r (upd o 2 1) t) else if y < 10 ∨ 60 < y then Po (.inl (some (.int (0)))) (md E w m d r (upd o 2 1) t) else Po (.inl (some (.int (nI (hmF z 30 y 0))))) (md E w m d r (upd o 2 0) t)) : Ct M_X10_heatsIn E [.ref m, .int z, .int y] (md E w m d r o t) Po := by
  refine Ct.of (ws2 := xAll) (L := [some (.ref m), some (.int z), some (.int y), none, none]) (by decide +kernel) rfl rfl (List.forall_mem_cons.mpr ⟨rfl, List.forall_mem_cons.mpr ⟨rfl, List.forall_mem_cons.mpr ⟨rfl, fun _ h => absurd h List.not_mem_nil⟩⟩⟩) (Nat.le_of_ble_eq_true rfl) rfl ?_
  refine r_aload_n (q := 1) dX10_heatsIn_0 rfl rfl rfl ?_
  refine r_iload_n (q := 2) dX10_heatsIn_1 rfl rfl rfl ?_
  refine r_iconst (q := 3) (v := 1) dX10_heatsIn_2 rfl rfl ?_
  refine r_iconst (q := 4) (v := 3) dX10_heatsIn_3 rfl rfl ?_
  refine r_callS (q := 7) (As := [_, _, _]) dX10_heatsIn_4 s_X10_heatsIn_85 rfl rfl (Nat.le_of_ble_eq_true rfl) rfl rfl rfl (Nat.le_of_ble_eq_true rfl) (Nat.le_of_ble_eq_true rfl) ⟨(Nat.le_of_ble_eq_true rfl), (Nat.le_of_ble_eq_true rfl)⟩ rfl ?_
  refine ct_X10_in (fun h1 => ?_) (fun h1 => ?_)
  · show WF _ E Po _ _ _ _ _ _ _
    rw [if_neg h1] at hp
    refine r_if_eq (q := 25) (q2 := 10) dX10_heatsIn_7 (by decide) rfl (fun h9 => absurd h9 (by decide)) (fun _ => ?_)
    refine r_iload_n (q := 11) dX10_heatsIn_10 rfl rfl rfl ?_
    refine r_bipush (q := 13) (v := 10) dX10_heatsIn_11 (by decide) rfl ?_
    refine r_bipush (q := 15) (v := 60) dX10_heatsIn_13 (by decide) rfl ?_
    refine r_callS (q := 18) (As := [_, _, _]) dX10_heatsIn_15 s_X10_heatsIn_85 rfl rfl (Nat.le_of_ble_eq_true rfl) rfl rfl rfl (Nat.le_of_ble_eq_true rfl) (Nat.le_of_ble_eq_true rfl) ⟨(Nat.le_of_ble_eq_true rfl), (Nat.le_of_ble_eq_true rfl)⟩ rfl ?_
    refine ct_X10_in (fun h2 => ?_) (fun h2 => ?_)
    · show WF _ E Po _ _ _ _ _ _ _
      rw [if_neg h2] at hp
      obtain ⟨hz, hb, -⟩ := hm_ok h1 h2
      refine r_if_eq (q := 25) (q2 := 21) dX10_heatsIn_18 (by decide) rfl (fun h9 => absurd h9 (by decide)) (fun _ => ?_)
      refine r_iconst (q := 22) (v := 0) dX10_heatsIn_21 rfl rfl ?_
      refine r_goto (q := 26) dX10_heatsIn_22 (by decide) ?_
      refine r_putfield (q := 29) dX10_heatsIn_26 f_X10_heatsIn_63 md_g0 rfl rfl (by exact Nat.le_of_ble_eq_true rfl) rfl ?_
      refine WF.cw (md_po (i := 2)) ?_
      refine r_aload_n (q := 30) dX10_heatsIn_29 rfl rfl rfl ?_
      refine r_getfield (q := 33) dX10_heatsIn_30 f_X10_heatsIn_63 md_g0 rfl rfl ?_
      refine r_if_le (q := 38) (q2 := 36) dX10_heatsIn_33 (by decide) rfl (fun _ => ?_) (fun h9 => absurd (show (0 : Int32) ≤ 0 by decide) h9)
      refine r_iconst (q := 39) (v := 0) dX10_heatsIn_38 rfl rfl ?_
      refine r_istore_n (q := 40) dX10_heatsIn_39 rfl (Nat.le_of_ble_eq_true rfl) (xone_of rfl) rfl ?_
      refine r_iload_n (q := 41) dX10_heatsIn_40 rfl rfl rfl ?_
      refine r_istore (q := 43) dX10_heatsIn_41 (Nat.le_of_ble_eq_true rfl) (xone_of rfl) rfl ?_
      exact lp_X10_heatsIn hz 31 30 _ 0 hb hp (by decide)
    · show WF _ E Po _ _ _ _ _ _ _
      rw [if_pos h2] at hp
      refine r_if_eq (q := 25) (q2 := 21) dX10_heatsIn_18 (by decide) rfl (fun _ => ?_) (fun h9 => absurd rfl h9)
      refine r_iconst (q := 26) (v := 1) dX10_heatsIn_25 rfl rfl ?_
      refine r_putfield (q := 29) dX10_heatsIn_26 f_X10_heatsIn_63 md_g0 rfl rfl (by exact Nat.le_of_ble_eq_true rfl) rfl ?_
      refine WF.cw (md_po (i := 2)) ?_
      refine r_aload_n (q := 30) dX10_heatsIn_29 rfl rfl rfl ?_
      refine r_getfield (q := 33) dX10_heatsIn_30 f_X10_heatsIn_63 md_g0 rfl rfl ?_
      refine r_if_le (q := 38) (q2 := 36) dX10_heatsIn_33 (by decide) rfl (fun h9 => absurd h9 (show ¬ ((1 : Int32) ≤ 0) by decide)) (fun _ => ?_)
      refine r_iconst (q := 37) (v := 0) dX10_heatsIn_36 rfl rfl ?_
      refine r_iret dX10_heatsIn_37 rfl (Nat.le_of_ble_eq_true rfl) (Nat.le_of_ble_eq_true rfl) ?_
      exact hp
  · show WF _ E Po _ _ _ _ _ _ _
    rw [if_pos h1] at hp
    refine r_if_eq (q := 25) (q2 := 10) dX10_heatsIn_7 (by decide) rfl (fun _ => ?_) (fun h9 => absurd rfl h9)
    refine r_iconst (q := 26) (v := 1) dX10_heatsIn_25 rfl rfl ?_
    refine r_putfield (q := 29) dX10_heatsIn_26 f_X10_heatsIn_63 md_g0 rfl rfl (by exact Nat.le_of_ble_eq_true rfl) rfl ?_
    refine WF.cw (md_po (i := 2)) ?_
    refine r_aload_n (q := 30) dX10_heatsIn_29 rfl rfl rfl ?_
    refine r_getfield (q := 33) dX10_heatsIn_30 f_X10_heatsIn_63 md_g0 rfl rfl ?_
    refine r_if_le (q := 38) (q2 := 36) dX10_heatsIn_33 (by decide) rfl (fun h9 => absurd h9 (show ¬ ((1 : Int32) ≤ 0) by decide)) (fun _ => ?_)
    refine r_iconst (q := 37) (v := 0) dX10_heatsIn_36 rfl rfl ?_
    refine r_iret dX10_heatsIn_37 rfl (Nat.le_of_ble_eq_true rfl) (Nat.le_of_ble_eq_true rfl) ?_
    exact hp
set_option maxRecDepth 100000 in
set_option maxHeartbeats 4000000 in
theorem ct_X10_heatsAgain {E : xE} {Po : xPo} {w : xW} {m : Nat} {d : xCo} {r : mRs} {o : Nat → Int32} {t : mTx} {z y : Int32} (hp : if z < 1 ∨ 3 < z then Po (.inl (some (.int (0)))) (md E w m d r (upd o 2 1) t) else if y < 10 ∨ 60 < y then Po (.inl (some (.int (0)))) (md E w m d r (upd o 2 1) t) else Po (.inl (some (.int (nI (hmF z 30 y 0))))) (md E w m d r (upd o 2 0) t)) : Ct M_X10_heatsAgain E [.ref m, .int z, .int y] (md E w m d r o t) Po := by
  refine Ct.of (ws2 := xAll) (L := [some (.ref m), some (.int z), some (.int y)]) (by decide +kernel) rfl rfl (List.forall_mem_cons.mpr ⟨rfl, List.forall_mem_cons.mpr ⟨rfl, List.forall_mem_cons.mpr ⟨rfl, fun _ h => absurd h List.not_mem_nil⟩⟩⟩) (Nat.le_of_ble_eq_true rfl) rfl ?_
  refine r_aload_n (q := 1) dX10_heatsAgain_0 rfl rfl rfl ?_
  refine r_iload_n (q := 2) dX10_heatsAgain_1 rfl rfl rfl ?_
  refine r_iload_n (q := 3) dX10_heatsAgain_2 rfl rfl rfl ?_
  refine r_callV (q := 6) (ci := 12) (As := [_, _]) dX10_heatsAgain_3 s_X10_heatsAgain_192 md_g0 rfl rfl rfl (Nat.le_of_ble_eq_true rfl) rfl rfl rfl (Nat.le_of_ble_eq_true rfl) (Nat.le_of_ble_eq_true rfl) ⟨(Nat.le_of_ble_eq_true rfl), (Nat.le_of_ble_eq_true rfl)⟩ rfl ?_
  refine ct_X10_heatsIn ?_
  by_cases h1 : z < 1 ∨ 3 < z
  · rw [if_pos h1] at hp
    rw [if_pos h1]
    show WF _ E Po _ _ _ _ _ _ _
    refine r_iret dX10_heatsAgain_6 rfl (Nat.le_of_ble_eq_true rfl) (Nat.le_of_ble_eq_true rfl) ?_
    exact hp
  · rw [if_neg h1] at hp
    rw [if_neg h1]
    by_cases h2 : y < 10 ∨ 60 < y
    · rw [if_pos h2] at hp
      rw [if_pos h2]
      show WF _ E Po _ _ _ _ _ _ _
      refine r_iret dX10_heatsAgain_6 rfl (Nat.le_of_ble_eq_true rfl) (Nat.le_of_ble_eq_true rfl) ?_
      exact hp
    rw [if_neg h2] at hp
    rw [if_neg h2]
    show WF _ E Po _ _ _ _ _ _ _
    refine r_iret dX10_heatsAgain_6 rfl (Nat.le_of_ble_eq_true rfl) (Nat.le_of_ble_eq_true rfl) ?_
    exact hp
set_option maxRecDepth 100000 in
set_option maxHeartbeats 4000000 in
theorem lp_X10_allGas {E : xE} {Po : xPo} {w0 w : xW} {m : Nat} {d : xCo} {r : mRs} {o : Nat → Int32} {t : mTx} {N : Nat} (hN : N ≤ 4) (eN : d.1 3 = nI N) (n9 : Nat) : ∀ (i : Nat) (hi : i ≤ N) (hp : Po (.inl (some (.int (sumS (fun k => d.2.2.2 k 0) N)))) (md E w m d r o t)) (hn9 : N - i < n9), WF M_X10_allGas E Po w0 4 [some (.ref m), some (.int (sumS (fun k => d.2.2.2 k 0) i)), some (.int (nI i))] [] (md E w m d r o t) 0 0 := by
  induction n9 with
  | zero => intro i hi hp hn9; exact absurd hn9 (Nat.not_lt_zero _)
  | succ n9 ih =>
    intro i hi hp hn9
    refine r_iload_n (q := 5) dX10_allGas_4 rfl rfl rfl ?_
    refine r_aload_n (q := 6) dX10_allGas_5 rfl rfl rfl ?_
    refine r_getfield (q := 9) dX10_allGas_6 f_X10_allGas_9 md_g0 rfl rfl ?_
    refine r_iconst (q := 10) (v := 3) dX10_allGas_9 rfl rfl ?_
    refine r_ldS (q := 11) (k := 3) dX10_allGas_10 (by decide) rfl ?_
    rw [eN]
    refine r_icmp_ge (q := 28) (q2 := 14) dX10_allGas_11 (by decide) rfl (fun h11 => ?_) (fun h11 => ?_)
    · obtain rfl : i = N := by have := (nI_leI (by omega) (by omega)).mp h11; omega
      refine r_iload_n (q := 29) dX10_allGas_28 rfl rfl rfl ?_
      refine r_iret dX10_allGas_29 rfl (Nat.le_of_ble_eq_true rfl) (Nat.le_of_ble_eq_true rfl) ?_
      exact hp
    · have hiN : i < N := by
        have : ¬ N ≤ i := fun q => h11 ((nI_leI (by omega) (by omega)).mpr q)
        omega
      have hi4 : i < 4 := by omega
      refine r_iload_n (q := 15) dX10_allGas_14 rfl rfl rfl ?_
      refine r_aload_n (q := 16) dX10_allGas_15 rfl rfl rfl ?_
      refine r_iload_n (q := 17) dX10_allGas_16 rfl rfl rfl ?_
      refine r_callV (q := 20) (ci := 12) (As := [_]) dX10_allGas_17 s_X10_allGas_152 md_g0 rfl rfl rfl (Nat.le_of_ble_eq_true rfl) rfl rfl rfl (Nat.le_of_ble_eq_true rfl) (Nat.le_of_ble_eq_true rfl) ⟨(Nat.le_of_ble_eq_true rfl), (Nat.le_of_ble_eq_true rfl)⟩ rfl ?_
      refine ct_X10_gasOf hi4 ?_
      show WF _ E Po _ _ _ _ _ _ _
      refine r_iadd (q := 21) dX10_allGas_20 rfl ?_
      refine r_istore_n (q := 22) dX10_allGas_21 rfl (Nat.le_of_ble_eq_true rfl) (xone_of rfl) rfl ?_
      refine r_iinc (q := 25) dX10_allGas_22 rfl (Nat.le_of_ble_eq_true rfl) (xone_of rfl) rfl ?_
      rw [show nI i + Int32.ofInt 1 = nI (i + 1) from nI_1 i]
      refine r_goto (q := 4) dX10_allGas_25 (by decide) ?_
      exact ih (i + 1) (by omega) hp (by omega)
set_option maxRecDepth 100000 in
set_option maxHeartbeats 4000000 in
theorem ct_X10_allGas {E : xE} {Po : xPo} {w : xW} {m : Nat} {d : xCo} {r : mRs} {o : Nat → Int32} {t : mTx} {N : Nat} (hN : N ≤ 4) (eN : d.1 3 = nI N) (hp : Po (.inl (some (.int (sumS (fun k => d.2.2.2 k 0) N)))) (md E w m d r o t)) : Ct M_X10_allGas E [.ref m] (md E w m d r o t) Po := by
  refine Ct.of (ws2 := xAll) (L := [some (.ref m), none, none]) (by decide +kernel) rfl rfl (List.forall_mem_cons.mpr ⟨rfl, fun _ h => absurd h List.not_mem_nil⟩) (Nat.le_of_ble_eq_true rfl) rfl ?_
  refine r_iconst (q := 1) (v := 0) dX10_allGas_0 rfl rfl ?_
  refine r_istore_n (q := 2) dX10_allGas_1 rfl (Nat.le_of_ble_eq_true rfl) (xone_of rfl) rfl ?_
  refine r_iconst (q := 3) (v := 0) dX10_allGas_2 rfl rfl ?_
  refine r_istore_n (q := 4) dX10_allGas_3 rfl (Nat.le_of_ble_eq_true rfl) (xone_of rfl) rfl ?_
  exact lp_X10_allGas hN eN (N + 1) 0 (Nat.zero_le _) hp (by omega)
set_option maxRecDepth 100000 in
set_option maxHeartbeats 4000000 in
theorem lp_X10_allWait {E : xE} {Po : xPo} {w0 w : xW} {m : Nat} {d : xCo} {r : mRs} {o : Nat → Int32} {t : mTx} {N : Nat} (hN : N ≤ 5) (eN : d.1 2 = nI N) (n9 : Nat) : ∀ (i : Nat) (hi : i ≤ N) (hp : Po (.inl (some (.int (sumS (fun k => d.2.2.1 k 4) N)))) (md E w m d r o t)) (hn9 : N - i < n9), WF M_X10_allWait E Po w0 4 [some (.ref m), some (.int (sumS (fun k => d.2.2.1 k 4) i)), some (.int (nI i))] [] (md E w m d r o t) 0 0 := by
  induction n9 with
  | zero => intro i hi hp hn9; exact absurd hn9 (Nat.not_lt_zero _)
  | succ n9 ih =>
    intro i hi hp hn9
    refine r_iload_n (q := 5) dX10_allWait_4 rfl rfl rfl ?_
    refine r_aload_n (q := 6) dX10_allWait_5 rfl rfl rfl ?_
    refine r_getfield (q := 9) dX10_allWait_6 f_X10_allWait_9 md_g0 rfl rfl ?_
    refine r_iconst (q := 10) (v := 2) dX10_allWait_9 rfl rfl ?_
    refine r_ldS (q := 11) (k := 2) dX10_allWait_10 (by decide) rfl ?_
    rw [eN]
    refine r_icmp_ge (q := 29) (q2 := 14) dX10_allWait_11 (by decide) rfl (fun h11 => ?_) (fun h11 => ?_)
    · obtain rfl : i = N := by have := (nI_leI (by omega) (by omega)).mp h11; omega
      refine r_iload_n (q := 30) dX10_allWait_29 rfl rfl rfl ?_
      refine r_iret dX10_allWait_30 rfl (Nat.le_of_ble_eq_true rfl) (Nat.le_of_ble_eq_true rfl) ?_
      exact hp
    · have hiN : i < N := by
        have : ¬ N ≤ i := fun q => h11 ((nI_leI (by omega) (by omega)).mpr q)
        omega
      have hi4 : i < 5 := by omega
      refine r_iload_n (q := 15) dX10_allWait_14 rfl rfl rfl ?_
      refine r_aload_n (q := 16) dX10_allWait_15 rfl rfl rfl ?_
      refine r_iload_n (q := 17) dX10_allWait_16 rfl rfl rfl ?_
      refine r_iconst (q := 18) (v := 4) dX10_allWait_17 rfl rfl ?_
      refine r_callV (q := 21) (ci := 12) (As := [_, _]) dX10_allWait_18 s_X10_allWait_134 md_g0 rfl rfl rfl (Nat.le_of_ble_eq_true rfl) rfl rfl rfl (Nat.le_of_ble_eq_true rfl) (Nat.le_of_ble_eq_true rfl) ⟨(Nat.le_of_ble_eq_true rfl), (Nat.le_of_ble_eq_true rfl)⟩ rfl ?_
      refine ct_X10_tent1 (k := 4) hi4 (by decide) ?_
      show WF _ E Po _ _ _ _ _ _ _
      refine r_iadd (q := 22) dX10_allWait_21 rfl ?_
      refine r_istore_n (q := 23) dX10_allWait_22 rfl (Nat.le_of_ble_eq_true rfl) (xone_of rfl) rfl ?_
      refine r_iinc (q := 26) dX10_allWait_23 rfl (Nat.le_of_ble_eq_true rfl) (xone_of rfl) rfl ?_
      rw [show nI i + Int32.ofInt 1 = nI (i + 1) from nI_1 i]
      refine r_goto (q := 4) dX10_allWait_26 (by decide) ?_
      exact ih (i + 1) (by omega) hp (by omega)
set_option maxRecDepth 100000 in
set_option maxHeartbeats 4000000 in
theorem ct_X10_allWait {E : xE} {Po : xPo} {w : xW} {m : Nat} {d : xCo} {r : mRs} {o : Nat → Int32} {t : mTx} {N : Nat} (hN : N ≤ 5) (eN : d.1 2 = nI N) (hp : Po (.inl (some (.int (sumS (fun k => d.2.2.1 k 4) N)))) (md E w m d r o t)) : Ct M_X10_allWait E [.ref m] (md E w m d r o t) Po := by
  refine Ct.of (ws2 := xAll) (L := [some (.ref m), none, none]) (by decide +kernel) rfl rfl (List.forall_mem_cons.mpr ⟨rfl, fun _ h => absurd h List.not_mem_nil⟩) (Nat.le_of_ble_eq_true rfl) rfl ?_
  refine r_iconst (q := 1) (v := 0) dX10_allWait_0 rfl rfl ?_
  refine r_istore_n (q := 2) dX10_allWait_1 rfl (Nat.le_of_ble_eq_true rfl) (xone_of rfl) rfl ?_
  refine r_iconst (q := 3) (v := 0) dX10_allWait_2 rfl rfl ?_
  refine r_istore_n (q := 4) dX10_allWait_3 rfl (Nat.le_of_ble_eq_true rfl) (xone_of rfl) rfl ?_
  exact lp_X10_allWait hN eN (N + 1) 0 (Nat.zero_le _) hp (by omega)
def ovS (d : xCo) (y : Int32) (k : Nat) : Int32 := if y = 3 then tmS (d.2.1 k 2) 8 else if y = 14 then d.2.1 k 3 else if 0 ≤ d.2.1 k 1 then 1 else 0
set_option maxRecDepth 100000 in
set_option maxHeartbeats 4000000 in
theorem lp_X10_overTubs {E : xE} {Po : xPo} {w0 w : xW} {m : Nat} {d : xCo} {r : mRs} {o : Nat → Int32} {t : mTx} {y : Int32} {N : Nat} (hN : N ≤ 8) (eN : d.1 1 = nI N) (n9 : Nat) : ∀ (i : Nat) (hi : i ≤ N) (hp : Po (.inl (some (.int (sumS (ovS d y) N)))) (md E w m d r o t)) (hn9 : N - i < n9), WF M_X10_overTubs E Po w0 4 [some (.ref m), some (.int y), some (.int (sumS (ovS d y) i)), some (.int (nI i))] [] (md E w m d r o t) 0 0 := by
  induction n9 with
  | zero => intro i hi hp hn9; exact absurd hn9 (Nat.not_lt_zero _)
  | succ n9 ih =>
    intro i hi hp hn9
    refine r_iload_n (q := 5) dX10_overTubs_4 rfl rfl rfl ?_
    refine r_aload_n (q := 6) dX10_overTubs_5 rfl rfl rfl ?_
    refine r_getfield (q := 9) dX10_overTubs_6 f_X10_overTubs_9 md_g0 rfl rfl ?_
    refine r_iconst (q := 10) (v := 1) dX10_overTubs_9 rfl rfl ?_
    refine r_ldS (q := 11) (k := 1) dX10_overTubs_10 (by decide) rfl ?_
    rw [eN]
    refine r_icmp_ge (q := 65) (q2 := 14) dX10_overTubs_11 (by decide) rfl (fun h11 => ?_) (fun h11 => ?_)
    · obtain rfl : i = N := by have := (nI_leI (by omega) (by omega)).mp h11; omega
      refine r_iload_n (q := 66) dX10_overTubs_65 rfl rfl rfl ?_
      refine r_iret dX10_overTubs_66 rfl (Nat.le_of_ble_eq_true rfl) (Nat.le_of_ble_eq_true rfl) ?_
      exact hp
    · have hiN : i < N := by
        have : ¬ N ≤ i := fun q => h11 ((nI_leI (by omega) (by omega)).mpr q)
        omega
      have hi8 : i < 8 := by omega
      have hs : sumS (ovS d y) (i + 1) = sumS (ovS d y) i + ovS d y i := rfl
      unfold ovS at hs
      rw [show (fun k => if y = 3 then tmS (d.2.1 k 2) 8 else if y = 14 then d.2.1 k 3 else if 0 ≤ d.2.1 k 1 then 1 else 0) = ovS d y from rfl] at hs
      refine r_iload_n (q := 15) dX10_overTubs_14 rfl rfl rfl ?_
      refine r_iload_n (q := 16) dX10_overTubs_15 rfl rfl rfl ?_
      refine r_iconst (q := 17) (v := 3) dX10_overTubs_16 rfl rfl ?_
      refine r_icmp_ne (q := 28) (q2 := 20) dX10_overTubs_17 (by decide) rfl (fun h17 => ?_) (fun h17 => ?_)
      · rw [if_neg h17] at hs
        refine r_iload_n (q := 29) dX10_overTubs_28 rfl rfl rfl ?_
        refine r_bipush (q := 31) (v := 14) dX10_overTubs_29 (by decide) rfl ?_
        refine r_icmp_ne (q := 43) (q2 := 34) dX10_overTubs_31 (by decide) rfl (fun h31 => ?_) (fun h31 => ?_)
        · rw [if_neg h31] at hs
          refine r_aload_n (q := 44) dX10_overTubs_43 rfl rfl rfl ?_
          refine r_iload_n (q := 45) dX10_overTubs_44 rfl rfl rfl ?_
          refine r_iconst (q := 46) (v := 1) dX10_overTubs_45 rfl rfl ?_
          refine r_callV (q := 49) (ci := 12) (As := [_, _]) dX10_overTubs_46 s_X10_overTubs_93 md_g0 rfl rfl rfl (Nat.le_of_ble_eq_true rfl) rfl rfl rfl (Nat.le_of_ble_eq_true rfl) (Nat.le_of_ble_eq_true rfl) ⟨(Nat.le_of_ble_eq_true rfl), (Nat.le_of_ble_eq_true rfl)⟩ rfl ?_
          refine ct_X10_tub1 (k := 1) hi8 (by decide) ?_
          show WF _ E Po _ _ _ _ _ _ _
          refine r_if_ge (q := 56) (q2 := 52) dX10_overTubs_49 (by decide) rfl (fun h49 => ?_) (fun h49 => ?_)
          · rw [if_pos h49] at hs
            refine r_iconst (q := 57) (v := 1) dX10_overTubs_56 rfl rfl ?_
            refine r_iadd (q := 58) dX10_overTubs_57 rfl ?_
            refine r_istore_n (q := 59) dX10_overTubs_58 rfl (Nat.le_of_ble_eq_true rfl) (xone_of rfl) rfl ?_
            refine r_iinc (q := 62) dX10_overTubs_59 rfl (Nat.le_of_ble_eq_true rfl) (xone_of rfl) rfl ?_
            rw [← hs, show nI i + Int32.ofInt 1 = nI (i + 1) from nI_1 i]
            refine r_goto (q := 4) dX10_overTubs_62 (by decide) ?_
            exact ih (i + 1) (by omega) hp (by omega)
          · rw [if_neg h49] at hs
            refine r_iconst (q := 53) (v := 0) dX10_overTubs_52 rfl rfl ?_
            refine r_goto (q := 57) dX10_overTubs_53 (by decide) ?_
            refine r_iadd (q := 58) dX10_overTubs_57 rfl ?_
            refine r_istore_n (q := 59) dX10_overTubs_58 rfl (Nat.le_of_ble_eq_true rfl) (xone_of rfl) rfl ?_
            refine r_iinc (q := 62) dX10_overTubs_59 rfl (Nat.le_of_ble_eq_true rfl) (xone_of rfl) rfl ?_
            rw [← hs, show nI i + Int32.ofInt 1 = nI (i + 1) from nI_1 i]
            refine r_goto (q := 4) dX10_overTubs_62 (by decide) ?_
            exact ih (i + 1) (by omega) hp (by omega)
        · rw [if_pos h31] at hs
          refine r_aload_n (q := 35) dX10_overTubs_34 rfl rfl rfl ?_
          refine r_iload_n (q := 36) dX10_overTubs_35 rfl rfl rfl ?_
          refine r_iconst (q := 37) (v := 3) dX10_overTubs_36 rfl rfl ?_
          refine r_callV (q := 40) (ci := 12) (As := [_, _]) dX10_overTubs_37 s_X10_overTubs_93 md_g0 rfl rfl rfl (Nat.le_of_ble_eq_true rfl) rfl rfl rfl (Nat.le_of_ble_eq_true rfl) (Nat.le_of_ble_eq_true rfl) ⟨(Nat.le_of_ble_eq_true rfl), (Nat.le_of_ble_eq_true rfl)⟩ rfl ?_
          refine ct_X10_tub1 (k := 3) hi8 (by decide) ?_
          show WF _ E Po _ _ _ _ _ _ _
          refine r_goto (q := 57) dX10_overTubs_40 (by decide) ?_
          refine r_iadd (q := 58) dX10_overTubs_57 rfl ?_
          refine r_istore_n (q := 59) dX10_overTubs_58 rfl (Nat.le_of_ble_eq_true rfl) (xone_of rfl) rfl ?_
          refine r_iinc (q := 62) dX10_overTubs_59 rfl (Nat.le_of_ble_eq_true rfl) (xone_of rfl) rfl ?_
          rw [← hs, show nI i + Int32.ofInt 1 = nI (i + 1) from nI_1 i]
          refine r_goto (q := 4) dX10_overTubs_62 (by decide) ?_
          exact ih (i + 1) (by omega) hp (by omega)
      · rw [if_pos h17] at hs
        refine r_aload_n (q := 21) dX10_overTubs_20 rfl rfl rfl ?_
        refine r_iload_n (q := 22) dX10_overTubs_21 rfl rfl rfl ?_
        refine r_callV (q := 25) (ci := 12) (As := [_]) dX10_overTubs_22 s_X10_overTubs_125 md_g0 rfl rfl rfl (Nat.le_of_ble_eq_true rfl) rfl rfl rfl (Nat.le_of_ble_eq_true rfl) (Nat.le_of_ble_eq_true rfl) ⟨(Nat.le_of_ble_eq_true rfl), (Nat.le_of_ble_eq_true rfl)⟩ rfl ?_
        refine ct_X10_tornMany hi8 ?_
        show WF _ E Po _ _ _ _ _ _ _
        refine r_goto (q := 57) dX10_overTubs_25 (by decide) ?_
        refine r_iadd (q := 58) dX10_overTubs_57 rfl ?_
        refine r_istore_n (q := 59) dX10_overTubs_58 rfl (Nat.le_of_ble_eq_true rfl) (xone_of rfl) rfl ?_
        refine r_iinc (q := 62) dX10_overTubs_59 rfl (Nat.le_of_ble_eq_true rfl) (xone_of rfl) rfl ?_
        rw [← hs, show nI i + Int32.ofInt 1 = nI (i + 1) from nI_1 i]
        refine r_goto (q := 4) dX10_overTubs_62 (by decide) ?_
        exact ih (i + 1) (by omega) hp (by omega)
set_option maxRecDepth 100000 in
set_option maxHeartbeats 4000000 in
theorem ct_X10_overTubs {E : xE} {Po : xPo} {w : xW} {m : Nat} {d : xCo} {r : mRs} {o : Nat → Int32} {t : mTx} {y : Int32} {N : Nat} (hN : N ≤ 8) (eN : d.1 1 = nI N) (hp : Po (.inl (some (.int (sumS (ovS d y) N)))) (md E w m d r o t)) : Ct M_X10_overTubs E [.ref m, .int y] (md E w m d r o t) Po := by
  refine Ct.of (ws2 := xAll) (L := [some (.ref m), some (.int y), none, none]) (by decide +kernel) rfl rfl (List.forall_mem_cons.mpr ⟨rfl, List.forall_mem_cons.mpr ⟨rfl, fun _ h => absurd h List.not_mem_nil⟩⟩) (Nat.le_of_ble_eq_true rfl) rfl ?_
  refine r_iconst (q := 1) (v := 0) dX10_overTubs_0 rfl rfl ?_
  refine r_istore_n (q := 2) dX10_overTubs_1 rfl (Nat.le_of_ble_eq_true rfl) (xone_of rfl) rfl ?_
  refine r_iconst (q := 3) (v := 0) dX10_overTubs_2 rfl rfl ?_
  refine r_istore_n (q := 4) dX10_overTubs_3 rfl (Nat.le_of_ble_eq_true rfl) (xone_of rfl) rfl ?_
  exact lp_X10_overTubs hN eN (N + 1) 0 (Nat.zero_le _) hp (by omega)
def mNum (d : xCo) (o : Nat → Int32) (y : Int32) : Int32 := if y = 0 then d.1 0 else if y = 1 then d.1 1 else if y = 2 then sumS (ovS d y) (d.1 1).toNatClampNeg else if y = 3 then sumS (ovS d y) (d.1 1).toNatClampNeg else if y = 4 then d.1 2 else if y = 5 then d.1 3 else if y = 6 then sumS (fun k => d.2.2.2 k 0) (d.1 3).toNatClampNeg else if y = 7 then d.1 4 else if y = 8 then d.1 5 else if y = 9 then sumS (fun k => d.2.2.1 k 4) (d.1 2).toNatClampNeg else if y = 10 then d.1 8 else if y = 11 then d.1 9 else if y = 12 then d.1 6 else if y = 13 then d.1 7 else if y = 14 then sumS (ovS d y) (d.1 1).toNatClampNeg else if y = 15 then o 1 else o 7
set_option maxRecDepth 100000 in
set_option maxHeartbeats 4000000 in
theorem ct_X10_number {E : xE} {Po : xPo} {w : xW} {m : Nat} {d : xCo} {r : mRs} {o : Nat → Int32} {t : mTx} {y : Int32} (hc : inC d) (hp : if y < 0 ∨ 16 < y then Po (.inl (some (.int (0)))) (md E w m d r (upd o 2 1) t) else Po (.inl (some (.int (mNum d o y)))) (md E w m d r (upd o 2 0) t)) : Ct M_X10_number E [.ref m, .int y] (md E w m d r o t) Po := by
  refine Ct.of (ws2 := xAll) (L := [some (.ref m), some (.int y)]) (by decide +kernel) rfl rfl (List.forall_mem_cons.mpr ⟨rfl, List.forall_mem_cons.mpr ⟨rfl, fun _ h => absurd h List.not_mem_nil⟩⟩) (Nat.le_of_ble_eq_true rfl) rfl ?_
  obtain ⟨⟨N1, hN1, eN1⟩, ⟨N2, hN2, eN2⟩, ⟨N3, hN3, eN3⟩, -⟩ := hc
  refine r_aload_n (q := 1) dX10_number_0 rfl rfl rfl ?_
  refine r_iload_n (q := 2) dX10_number_1 rfl rfl rfl ?_
  refine r_iconst (q := 3) (v := 0) dX10_number_2 rfl rfl ?_
  refine r_bipush (q := 5) (v := 16) dX10_number_3 (by decide) rfl ?_
  refine r_callS (q := 8) (As := [_, _, _]) dX10_number_5 s_X10_number_85 rfl rfl (Nat.le_of_ble_eq_true rfl) rfl rfl rfl (Nat.le_of_ble_eq_true rfl) (Nat.le_of_ble_eq_true rfl) ⟨(Nat.le_of_ble_eq_true rfl), (Nat.le_of_ble_eq_true rfl)⟩ rfl ?_
  refine ct_X10_in (fun hi => ?_) (fun hi => ?_)
  · show WF _ E Po _ _ _ _ _ _ _
    rw [if_neg hi] at hp
    unfold mNum at hp
    refine r_if_eq (q := 15) (q2 := 11) dX10_number_8 (by decide) rfl (fun h9 => absurd h9 (by decide)) (fun _ => ?_)
    refine r_iconst (q := 12) (v := 0) dX10_number_11 rfl rfl ?_
    refine r_goto (q := 16) dX10_number_12 (by decide) ?_
    refine r_putfield (q := 19) dX10_number_16 f_X10_number_63 md_g0 rfl rfl (by exact Nat.le_of_ble_eq_true rfl) rfl ?_
    refine WF.cw (md_po (i := 2)) ?_
    refine r_aload_n (q := 20) dX10_number_19 rfl rfl rfl ?_
    refine r_getfield (q := 23) dX10_number_20 f_X10_number_63 md_g0 rfl rfl ?_
    refine r_if_le (q := 28) (q2 := 26) dX10_number_23 (by decide) rfl (fun _ => ?_) (fun h9 => absurd (show (0 : Int32) ≤ 0 by decide) h9)
    refine r_iload_n (q := 29) dX10_number_28 rfl rfl rfl ?_
    by_cases e0 : y = 0
    · subst e0
      rw [if_pos rfl] at hp
      refine r_tableIn (off := 79) (q := 108) dX10_number_29 (by decide) (by decide) (by decide) (by decide) ?_
      refine r_aload_n (q := 109) dX10_number_108 rfl rfl rfl ?_
      refine r_getfield (q := 112) dX10_number_109 f_X10_number_9 md_g0 rfl rfl ?_
      refine r_iload_n (q := 113) dX10_number_112 rfl rfl rfl ?_
      refine r_ldS (q := 114) (k := 0) dX10_number_113 (by decide) rfl ?_
      refine r_iret dX10_number_114 rfl (Nat.le_of_ble_eq_true rfl) (Nat.le_of_ble_eq_true rfl) ?_
      exact hp
    by_cases e1 : y = 1
    · subst e1
      rw [if_neg (by decide)] at hp
      rw [if_pos rfl] at hp
      refine r_tableIn (off := 79) (q := 108) dX10_number_29 (by decide) (by decide) (by decide) (by decide) ?_
      refine r_aload_n (q := 109) dX10_number_108 rfl rfl rfl ?_
      refine r_getfield (q := 112) dX10_number_109 f_X10_number_9 md_g0 rfl rfl ?_
      refine r_iload_n (q := 113) dX10_number_112 rfl rfl rfl ?_
      refine r_ldS (q := 114) (k := 1) dX10_number_113 (by decide) rfl ?_
      refine r_iret dX10_number_114 rfl (Nat.le_of_ble_eq_true rfl) (Nat.le_of_ble_eq_true rfl) ?_
      exact hp
    by_cases e2 : y = 2
    · subst e2
      rw [if_neg (by decide)] at hp
      rw [if_neg (by decide)] at hp
      rw [if_pos rfl] at hp
      refine r_tableIn (off := 86) (q := 115) dX10_number_29 (by decide) (by decide) (by decide) (by decide) ?_
      refine r_aload_n (q := 116) dX10_number_115 rfl rfl rfl ?_
      refine r_iload_n (q := 117) dX10_number_116 rfl rfl rfl ?_
      refine r_callV (q := 120) (ci := 12) (As := [_]) dX10_number_117 s_X10_number_235 md_g0 rfl rfl rfl (Nat.le_of_ble_eq_true rfl) rfl rfl rfl (Nat.le_of_ble_eq_true rfl) (Nat.le_of_ble_eq_true rfl) ⟨(Nat.le_of_ble_eq_true rfl), (Nat.le_of_ble_eq_true rfl)⟩ rfl ?_
      refine ct_X10_overTubs hN1 eN1 ?_
      show WF _ E Po _ _ _ _ _ _ _
      rw [eN1, nI_cl (by omega)] at hp
      refine r_iret dX10_number_120 rfl (Nat.le_of_ble_eq_true rfl) (Nat.le_of_ble_eq_true rfl) ?_
      exact hp
    by_cases e3 : y = 3
    · subst e3
      rw [if_neg (by decide)] at hp
      rw [if_neg (by decide)] at hp
      rw [if_neg (by decide)] at hp
      rw [if_pos rfl] at hp
      refine r_tableIn (off := 86) (q := 115) dX10_number_29 (by decide) (by decide) (by decide) (by decide) ?_
      refine r_aload_n (q := 116) dX10_number_115 rfl rfl rfl ?_
      refine r_iload_n (q := 117) dX10_number_116 rfl rfl rfl ?_
      refine r_callV (q := 120) (ci := 12) (As := [_]) dX10_number_117 s_X10_number_235 md_g0 rfl rfl rfl (Nat.le_of_ble_eq_true rfl) rfl rfl rfl (Nat.le_of_ble_eq_true rfl) (Nat.le_of_ble_eq_true rfl) ⟨(Nat.le_of_ble_eq_true rfl), (Nat.le_of_ble_eq_true rfl)⟩ rfl ?_
      refine ct_X10_overTubs hN1 eN1 ?_
      show WF _ E Po _ _ _ _ _ _ _
      rw [eN1, nI_cl (by omega)] at hp
      refine r_iret dX10_number_120 rfl (Nat.le_of_ble_eq_true rfl) (Nat.le_of_ble_eq_true rfl) ?_
      exact hp
    by_cases e4 : y = 4
    · subst e4
      rw [if_neg (by decide)] at hp
      rw [if_neg (by decide)] at hp
      rw [if_neg (by decide)] at hp
      rw [if_neg (by decide)] at hp
      rw [if_pos rfl] at hp
      refine r_tableIn (off := 92) (q := 121) dX10_number_29 (by decide) (by decide) (by decide) (by decide) ?_
      refine r_aload_n (q := 122) dX10_number_121 rfl rfl rfl ?_
      refine r_getfield (q := 125) dX10_number_122 f_X10_number_9 md_g0 rfl rfl ?_
      refine r_iload_n (q := 126) dX10_number_125 rfl rfl rfl ?_
      refine r_iconst (q := 127) (v := 2) dX10_number_126 rfl rfl ?_
      refine r_isub (q := 128) dX10_number_127 rfl ?_
      rw [show (4 : Int32) - 2 = nI 2 by decide]
      refine r_ldS (q := 129) (k := 2) dX10_number_128 (by decide) rfl ?_
      refine r_iret dX10_number_129 rfl (Nat.le_of_ble_eq_true rfl) (Nat.le_of_ble_eq_true rfl) ?_
      exact hp
    by_cases e5 : y = 5
    · subst e5
      rw [if_neg (by decide)] at hp
      rw [if_neg (by decide)] at hp
      rw [if_neg (by decide)] at hp
      rw [if_neg (by decide)] at hp
      rw [if_neg (by decide)] at hp
      rw [if_pos rfl] at hp
      refine r_tableIn (off := 92) (q := 121) dX10_number_29 (by decide) (by decide) (by decide) (by decide) ?_
      refine r_aload_n (q := 122) dX10_number_121 rfl rfl rfl ?_
      refine r_getfield (q := 125) dX10_number_122 f_X10_number_9 md_g0 rfl rfl ?_
      refine r_iload_n (q := 126) dX10_number_125 rfl rfl rfl ?_
      refine r_iconst (q := 127) (v := 2) dX10_number_126 rfl rfl ?_
      refine r_isub (q := 128) dX10_number_127 rfl ?_
      rw [show (5 : Int32) - 2 = nI 3 by decide]
      refine r_ldS (q := 129) (k := 3) dX10_number_128 (by decide) rfl ?_
      refine r_iret dX10_number_129 rfl (Nat.le_of_ble_eq_true rfl) (Nat.le_of_ble_eq_true rfl) ?_
      exact hp
    by_cases e6 : y = 6
    · subst e6
      rw [if_neg (by decide)] at hp
      rw [if_neg (by decide)] at hp
      rw [if_neg (by decide)] at hp
      rw [if_neg (by decide)] at hp
      rw [if_neg (by decide)] at hp
      rw [if_neg (by decide)] at hp
      rw [if_pos rfl] at hp
      refine r_tableIn (off := 101) (q := 130) dX10_number_29 (by decide) (by decide) (by decide) (by decide) ?_
      refine r_aload_n (q := 131) dX10_number_130 rfl rfl rfl ?_
      refine r_callV (q := 134) (ci := 12) (As := []) dX10_number_131 s_X10_number_238 md_g0 rfl rfl rfl (Nat.le_of_ble_eq_true rfl) rfl rfl rfl (Nat.le_of_ble_eq_true rfl) (Nat.le_of_ble_eq_true rfl) ⟨(Nat.le_of_ble_eq_true rfl), (Nat.le_of_ble_eq_true rfl)⟩ rfl ?_
      refine ct_X10_allGas hN3 eN3 ?_
      show WF _ E Po _ _ _ _ _ _ _
      rw [eN3, nI_cl (by omega)] at hp
      refine r_iret dX10_number_134 rfl (Nat.le_of_ble_eq_true rfl) (Nat.le_of_ble_eq_true rfl) ?_
      exact hp
    by_cases e7 : y = 7
    · subst e7
      rw [if_neg (by decide)] at hp
      rw [if_neg (by decide)] at hp
      rw [if_neg (by decide)] at hp
      rw [if_neg (by decide)] at hp
      rw [if_neg (by decide)] at hp
      rw [if_neg (by decide)] at hp
      rw [if_neg (by decide)] at hp
      rw [if_pos rfl] at hp
      refine r_tableIn (off := 106) (q := 135) dX10_number_29 (by decide) (by decide) (by decide) (by decide) ?_
      refine r_aload_n (q := 136) dX10_number_135 rfl rfl rfl ?_
      refine r_getfield (q := 139) dX10_number_136 f_X10_number_9 md_g0 rfl rfl ?_
      refine r_iload_n (q := 140) dX10_number_139 rfl rfl rfl ?_
      refine r_iconst (q := 141) (v := 3) dX10_number_140 rfl rfl ?_
      refine r_isub (q := 142) dX10_number_141 rfl ?_
      rw [show (7 : Int32) - 3 = nI 4 by decide]
      refine r_ldS (q := 143) (k := 4) dX10_number_142 (by decide) rfl ?_
      refine r_iret dX10_number_143 rfl (Nat.le_of_ble_eq_true rfl) (Nat.le_of_ble_eq_true rfl) ?_
      exact hp
    by_cases e8 : y = 8
    · subst e8
      rw [if_neg (by decide)] at hp
      rw [if_neg (by decide)] at hp
      rw [if_neg (by decide)] at hp
      rw [if_neg (by decide)] at hp
      rw [if_neg (by decide)] at hp
      rw [if_neg (by decide)] at hp
      rw [if_neg (by decide)] at hp
      rw [if_neg (by decide)] at hp
      rw [if_pos rfl] at hp
      refine r_tableIn (off := 106) (q := 135) dX10_number_29 (by decide) (by decide) (by decide) (by decide) ?_
      refine r_aload_n (q := 136) dX10_number_135 rfl rfl rfl ?_
      refine r_getfield (q := 139) dX10_number_136 f_X10_number_9 md_g0 rfl rfl ?_
      refine r_iload_n (q := 140) dX10_number_139 rfl rfl rfl ?_
      refine r_iconst (q := 141) (v := 3) dX10_number_140 rfl rfl ?_
      refine r_isub (q := 142) dX10_number_141 rfl ?_
      rw [show (8 : Int32) - 3 = nI 5 by decide]
      refine r_ldS (q := 143) (k := 5) dX10_number_142 (by decide) rfl ?_
      refine r_iret dX10_number_143 rfl (Nat.le_of_ble_eq_true rfl) (Nat.le_of_ble_eq_true rfl) ?_
      exact hp
    by_cases e9 : y = 9
    · subst e9
      rw [if_neg (by decide)] at hp
      rw [if_neg (by decide)] at hp
      rw [if_neg (by decide)] at hp
      rw [if_neg (by decide)] at hp
      rw [if_neg (by decide)] at hp
      rw [if_neg (by decide)] at hp
      rw [if_neg (by decide)] at hp
      rw [if_neg (by decide)] at hp
      rw [if_neg (by decide)] at hp
      rw [if_pos rfl] at hp
      refine r_tableIn (off := 115) (q := 144) dX10_number_29 (by decide) (by decide) (by decide) (by decide) ?_
      refine r_aload_n (q := 145) dX10_number_144 rfl rfl rfl ?_
      refine r_callV (q := 148) (ci := 12) (As := []) dX10_number_145 s_X10_number_241 md_g0 rfl rfl rfl (Nat.le_of_ble_eq_true rfl) rfl rfl rfl (Nat.le_of_ble_eq_true rfl) (Nat.le_of_ble_eq_true rfl) ⟨(Nat.le_of_ble_eq_true rfl), (Nat.le_of_ble_eq_true rfl)⟩ rfl ?_
      refine ct_X10_allWait hN2 eN2 ?_
      show WF _ E Po _ _ _ _ _ _ _
      rw [eN2, nI_cl (by omega)] at hp
      refine r_iret dX10_number_148 rfl (Nat.le_of_ble_eq_true rfl) (Nat.le_of_ble_eq_true rfl) ?_
      exact hp
    by_cases e10 : y = 10
    · subst e10
      rw [if_neg (by decide)] at hp
      rw [if_neg (by decide)] at hp
      rw [if_neg (by decide)] at hp
      rw [if_neg (by decide)] at hp
      rw [if_neg (by decide)] at hp
      rw [if_neg (by decide)] at hp
      rw [if_neg (by decide)] at hp
      rw [if_neg (by decide)] at hp
      rw [if_neg (by decide)] at hp
      rw [if_neg (by decide)] at hp
      rw [if_pos rfl] at hp
      refine r_tableIn (off := 120) (q := 149) dX10_number_29 (by decide) (by decide) (by decide) (by decide) ?_
      refine r_aload_n (q := 150) dX10_number_149 rfl rfl rfl ?_
      refine r_getfield (q := 153) dX10_number_150 f_X10_number_9 md_g0 rfl rfl ?_
      refine r_iload_n (q := 154) dX10_number_153 rfl rfl rfl ?_
      refine r_iconst (q := 155) (v := 2) dX10_number_154 rfl rfl ?_
      refine r_isub (q := 156) dX10_number_155 rfl ?_
      rw [show (10 : Int32) - 2 = nI 8 by decide]
      refine r_ldS (q := 157) (k := 8) dX10_number_156 (by decide) rfl ?_
      refine r_iret dX10_number_157 rfl (Nat.le_of_ble_eq_true rfl) (Nat.le_of_ble_eq_true rfl) ?_
      exact hp
    by_cases e11 : y = 11
    · subst e11
      rw [if_neg (by decide)] at hp
      rw [if_neg (by decide)] at hp
      rw [if_neg (by decide)] at hp
      rw [if_neg (by decide)] at hp
      rw [if_neg (by decide)] at hp
      rw [if_neg (by decide)] at hp
      rw [if_neg (by decide)] at hp
      rw [if_neg (by decide)] at hp
      rw [if_neg (by decide)] at hp
      rw [if_neg (by decide)] at hp
      rw [if_neg (by decide)] at hp
      rw [if_pos rfl] at hp
      refine r_tableIn (off := 120) (q := 149) dX10_number_29 (by decide) (by decide) (by decide) (by decide) ?_
      refine r_aload_n (q := 150) dX10_number_149 rfl rfl rfl ?_
      refine r_getfield (q := 153) dX10_number_150 f_X10_number_9 md_g0 rfl rfl ?_
      refine r_iload_n (q := 154) dX10_number_153 rfl rfl rfl ?_
      refine r_iconst (q := 155) (v := 2) dX10_number_154 rfl rfl ?_
      refine r_isub (q := 156) dX10_number_155 rfl ?_
      rw [show (11 : Int32) - 2 = nI 9 by decide]
      refine r_ldS (q := 157) (k := 9) dX10_number_156 (by decide) rfl ?_
      refine r_iret dX10_number_157 rfl (Nat.le_of_ble_eq_true rfl) (Nat.le_of_ble_eq_true rfl) ?_
      exact hp
    by_cases e12 : y = 12
    · subst e12
      rw [if_neg (by decide)] at hp
      rw [if_neg (by decide)] at hp
      rw [if_neg (by decide)] at hp
      rw [if_neg (by decide)] at hp
      rw [if_neg (by decide)] at hp
      rw [if_neg (by decide)] at hp
      rw [if_neg (by decide)] at hp
      rw [if_neg (by decide)] at hp
      rw [if_neg (by decide)] at hp
      rw [if_neg (by decide)] at hp
      rw [if_neg (by decide)] at hp
      rw [if_neg (by decide)] at hp
      rw [if_pos rfl] at hp
      refine r_tableIn (off := 129) (q := 158) dX10_number_29 (by decide) (by decide) (by decide) (by decide) ?_
      refine r_aload_n (q := 159) dX10_number_158 rfl rfl rfl ?_
      refine r_getfield (q := 162) dX10_number_159 f_X10_number_9 md_g0 rfl rfl ?_
      refine r_iload_n (q := 163) dX10_number_162 rfl rfl rfl ?_
      refine r_bipush (q := 165) (v := 6) dX10_number_163 (by decide) rfl ?_
      refine r_isub (q := 166) dX10_number_165 rfl ?_
      rw [show (12 : Int32) - 6 = nI 6 by decide]
      refine r_ldS (q := 167) (k := 6) dX10_number_166 (by decide) rfl ?_
      refine r_iret dX10_number_167 rfl (Nat.le_of_ble_eq_true rfl) (Nat.le_of_ble_eq_true rfl) ?_
      exact hp
    by_cases e13 : y = 13
    · subst e13
      rw [if_neg (by decide)] at hp
      rw [if_neg (by decide)] at hp
      rw [if_neg (by decide)] at hp
      rw [if_neg (by decide)] at hp
      rw [if_neg (by decide)] at hp
      rw [if_neg (by decide)] at hp
      rw [if_neg (by decide)] at hp
      rw [if_neg (by decide)] at hp
      rw [if_neg (by decide)] at hp
      rw [if_neg (by decide)] at hp
      rw [if_neg (by decide)] at hp
      rw [if_neg (by decide)] at hp
      rw [if_neg (by decide)] at hp
      rw [if_pos rfl] at hp
      refine r_tableIn (off := 129) (q := 158) dX10_number_29 (by decide) (by decide) (by decide) (by decide) ?_
      refine r_aload_n (q := 159) dX10_number_158 rfl rfl rfl ?_
      refine r_getfield (q := 162) dX10_number_159 f_X10_number_9 md_g0 rfl rfl ?_
      refine r_iload_n (q := 163) dX10_number_162 rfl rfl rfl ?_
      refine r_bipush (q := 165) (v := 6) dX10_number_163 (by decide) rfl ?_
      refine r_isub (q := 166) dX10_number_165 rfl ?_
      rw [show (13 : Int32) - 6 = nI 7 by decide]
      refine r_ldS (q := 167) (k := 7) dX10_number_166 (by decide) rfl ?_
      refine r_iret dX10_number_167 rfl (Nat.le_of_ble_eq_true rfl) (Nat.le_of_ble_eq_true rfl) ?_
      exact hp
    by_cases e14 : y = 14
    · subst e14
      rw [if_neg (by decide)] at hp
      rw [if_neg (by decide)] at hp
      rw [if_neg (by decide)] at hp
      rw [if_neg (by decide)] at hp
      rw [if_neg (by decide)] at hp
      rw [if_neg (by decide)] at hp
      rw [if_neg (by decide)] at hp
      rw [if_neg (by decide)] at hp
      rw [if_neg (by decide)] at hp
      rw [if_neg (by decide)] at hp
      rw [if_neg (by decide)] at hp
      rw [if_neg (by decide)] at hp
      rw [if_neg (by decide)] at hp
      rw [if_neg (by decide)] at hp
      rw [if_pos rfl] at hp
      refine r_tableIn (off := 86) (q := 115) dX10_number_29 (by decide) (by decide) (by decide) (by decide) ?_
      refine r_aload_n (q := 116) dX10_number_115 rfl rfl rfl ?_
      refine r_iload_n (q := 117) dX10_number_116 rfl rfl rfl ?_
      refine r_callV (q := 120) (ci := 12) (As := [_]) dX10_number_117 s_X10_number_235 md_g0 rfl rfl rfl (Nat.le_of_ble_eq_true rfl) rfl rfl rfl (Nat.le_of_ble_eq_true rfl) (Nat.le_of_ble_eq_true rfl) ⟨(Nat.le_of_ble_eq_true rfl), (Nat.le_of_ble_eq_true rfl)⟩ rfl ?_
      refine ct_X10_overTubs hN1 eN1 ?_
      show WF _ E Po _ _ _ _ _ _ _
      rw [eN1, nI_cl (by omega)] at hp
      refine r_iret dX10_number_120 rfl (Nat.le_of_ble_eq_true rfl) (Nat.le_of_ble_eq_true rfl) ?_
      exact hp
    by_cases e15 : y = 15
    · subst e15
      rw [if_neg (by decide)] at hp
      rw [if_neg (by decide)] at hp
      rw [if_neg (by decide)] at hp
      rw [if_neg (by decide)] at hp
      rw [if_neg (by decide)] at hp
      rw [if_neg (by decide)] at hp
      rw [if_neg (by decide)] at hp
      rw [if_neg (by decide)] at hp
      rw [if_neg (by decide)] at hp
      rw [if_neg (by decide)] at hp
      rw [if_neg (by decide)] at hp
      rw [if_neg (by decide)] at hp
      rw [if_neg (by decide)] at hp
      rw [if_neg (by decide)] at hp
      rw [if_neg (by decide)] at hp
      rw [if_pos rfl] at hp
      refine r_tableIn (off := 139) (q := 168) dX10_number_29 (by decide) (by decide) (by decide) (by decide) ?_
      refine r_aload_n (q := 169) dX10_number_168 rfl rfl rfl ?_
      refine r_getfield (q := 172) dX10_number_169 f_X10_number_72 md_g0 rfl rfl ?_
      refine r_iret dX10_number_172 rfl (Nat.le_of_ble_eq_true rfl) (Nat.le_of_ble_eq_true rfl) ?_
      exact hp
    rw [if_neg e0] at hp
    rw [if_neg e1] at hp
    rw [if_neg e2] at hp
    rw [if_neg e3] at hp
    rw [if_neg e4] at hp
    rw [if_neg e5] at hp
    rw [if_neg e6] at hp
    rw [if_neg e7] at hp
    rw [if_neg e8] at hp
    rw [if_neg e9] at hp
    rw [if_neg e10] at hp
    rw [if_neg e11] at hp
    rw [if_neg e12] at hp
    rw [if_neg e13] at hp
    rw [if_neg e14] at hp
    rw [if_neg e15] at hp
    refine r_tableOut (q := 173) dX10_number_29 (sw_out 15 (by decide) (fun k hk => by rcases (show k = 0 ∨ k = 1 ∨ k = 2 ∨ k = 3 ∨ k = 4 ∨ k = 5 ∨ k = 6 ∨ k = 7 ∨ k = 8 ∨ k = 9 ∨ k = 10 ∨ k = 11 ∨ k = 12 ∨ k = 13 ∨ k = 14 ∨ k = 15 by omega) with rfl | rfl | rfl | rfl | rfl | rfl | rfl | rfl | rfl | rfl | rfl | rfl | rfl | rfl | rfl | rfl <;> assumption)) (by decide) ?_
    refine r_aload_n (q := 174) dX10_number_173 rfl rfl rfl ?_
    refine r_getfield (q := 177) dX10_number_174 f_X10_number_244 md_g0 rfl rfl ?_
    refine r_iret dX10_number_177 rfl (Nat.le_of_ble_eq_true rfl) (Nat.le_of_ble_eq_true rfl) ?_
    exact hp
  · show WF _ E Po _ _ _ _ _ _ _
    rw [if_pos hi] at hp
    refine r_if_eq (q := 15) (q2 := 11) dX10_number_8 (by decide) rfl (fun _ => ?_) (fun h9 => absurd rfl h9)
    refine r_iconst (q := 16) (v := 1) dX10_number_15 rfl rfl ?_
    refine r_putfield (q := 19) dX10_number_16 f_X10_number_63 md_g0 rfl rfl (by exact Nat.le_of_ble_eq_true rfl) rfl ?_
    refine WF.cw (md_po (i := 2)) ?_
    refine r_aload_n (q := 20) dX10_number_19 rfl rfl rfl ?_
    refine r_getfield (q := 23) dX10_number_20 f_X10_number_63 md_g0 rfl rfl ?_
    refine r_if_le (q := 28) (q2 := 26) dX10_number_23 (by decide) rfl (fun h9 => absurd h9 (show ¬ ((1 : Int32) ≤ 0) by decide)) (fun _ => ?_)
    refine r_iconst (q := 27) (v := 0) dX10_number_26 rfl rfl ?_
    refine r_iret dX10_number_27 rfl (Nat.le_of_ble_eq_true rfl) (Nat.le_of_ble_eq_true rfl) ?_
    exact hp
set_option maxRecDepth 100000 in
set_option maxHeartbeats 4000000 in
theorem ct_X10_towels {E : xE} {Po : xPo} {w : xW} {m : Nat} {d : xCo} {r : mRs} {o : Nat → Int32} {t : mTx}  (hp : Po (.inl (some (.int (d.1 4 + d.1 5 + d.1 8 - d.1 9)))) (md E w m d r (upd o 2 0) t)) : Ct M_X10_towels E [.ref m] (md E w m d r o t) Po := by
  refine Ct.of (ws2 := xAll) (L := [some (.ref m)]) (by decide +kernel) rfl rfl (List.forall_mem_cons.mpr ⟨rfl, fun _ h => absurd h List.not_mem_nil⟩) (Nat.le_of_ble_eq_true rfl) rfl ?_
  refine r_aload_n (q := 1) dX10_towels_0 rfl rfl rfl ?_
  refine r_iconst (q := 2) (v := 0) dX10_towels_1 rfl rfl ?_
  refine r_putfield (q := 5) dX10_towels_2 f_X10_towels_63 md_g0 rfl rfl (by exact Nat.le_of_ble_eq_true rfl) rfl ?_
  refine WF.cw (md_po (i := 2)) ?_
  refine r_aload_n (q := 6) dX10_towels_5 rfl rfl rfl ?_
  refine r_getfield (q := 9) dX10_towels_6 f_X10_towels_9 md_g0 rfl rfl ?_
  refine r_iconst (q := 10) (v := 4) dX10_towels_9 rfl rfl ?_
  refine r_ldS (q := 11) (k := 4) dX10_towels_10 (by decide) rfl ?_
  refine r_aload_n (q := 12) dX10_towels_11 rfl rfl rfl ?_
  refine r_getfield (q := 15) dX10_towels_12 f_X10_towels_9 md_g0 rfl rfl ?_
  refine r_iconst (q := 16) (v := 5) dX10_towels_15 rfl rfl ?_
  refine r_ldS (q := 17) (k := 5) dX10_towels_16 (by decide) rfl ?_
  refine r_iadd (q := 18) dX10_towels_17 rfl ?_
  refine r_aload_n (q := 19) dX10_towels_18 rfl rfl rfl ?_
  refine r_getfield (q := 22) dX10_towels_19 f_X10_towels_9 md_g0 rfl rfl ?_
  refine r_bipush (q := 24) (v := 8) dX10_towels_22 (by decide) rfl ?_
  refine r_ldS (q := 25) (k := 8) dX10_towels_24 (by decide) rfl ?_
  refine r_iadd (q := 26) dX10_towels_25 rfl ?_
  refine r_aload_n (q := 27) dX10_towels_26 rfl rfl rfl ?_
  refine r_getfield (q := 30) dX10_towels_27 f_X10_towels_9 md_g0 rfl rfl ?_
  refine r_bipush (q := 32) (v := 9) dX10_towels_30 (by decide) rfl ?_
  refine r_ldS (q := 33) (k := 9) dX10_towels_32 (by decide) rfl ?_
  refine r_isub (q := 34) dX10_towels_33 rfl ?_
  refine r_iret dX10_towels_34 rfl (Nat.le_of_ble_eq_true rfl) (Nat.le_of_ble_eq_true rfl) ?_
  exact hp
set_option maxRecDepth 100000 in
set_option maxHeartbeats 4000000 in
theorem ct_X10_faultPosition {E : xE} {Po : xPo} {w : xW} {m : Nat} {d : xCo} {r : mRs} {o : Nat → Int32} {t : mTx}  (hp : if 0 ≤ o 10 then Po (.inl (some (.int (o 10)))) (md E w m d r (upd o 2 0) t) else Po (.inl (some (.int (0)))) (md E w m d r (upd o 2 1) t)) : Ct M_X10_faultPosition E [.ref m] (md E w m d r o t) Po := by
  refine Ct.of (ws2 := xAll) (L := [some (.ref m)]) (by decide +kernel) rfl rfl (List.forall_mem_cons.mpr ⟨rfl, fun _ h => absurd h List.not_mem_nil⟩) (Nat.le_of_ble_eq_true rfl) rfl ?_
  refine r_aload_n (q := 1) dX10_faultPosition_0 rfl rfl rfl ?_
  refine r_aload_n (q := 2) dX10_faultPosition_1 rfl rfl rfl ?_
  refine r_getfield (q := 5) dX10_faultPosition_2 f_X10_faultPosition_56 md_g0 rfl rfl ?_
  refine r_if_ge (q := 12) (q2 := 8) dX10_faultPosition_5 (by decide) rfl (fun h5 => ?_) (fun h5 => ?_)
  · rw [if_pos h5] at hp
    refine r_iconst (q := 13) (v := 0) dX10_faultPosition_12 rfl rfl ?_
    refine r_putfield (q := 16) dX10_faultPosition_13 f_X10_faultPosition_63 md_g0 rfl rfl (by exact Nat.le_of_ble_eq_true rfl) rfl ?_
    refine WF.cw (md_po (i := 2)) ?_
    refine r_aload_n (q := 17) dX10_faultPosition_16 rfl rfl rfl ?_
    refine r_getfield (q := 20) dX10_faultPosition_17 f_X10_faultPosition_63 md_g0 rfl rfl ?_
    refine r_if_le (q := 27) (q2 := 23) dX10_faultPosition_20 (by decide) rfl (fun _ => ?_) (fun h9 => absurd (show (0 : Int32) ≤ 0 by decide) h9)
    refine r_aload_n (q := 28) dX10_faultPosition_27 rfl rfl rfl ?_
    refine r_getfield (q := 31) dX10_faultPosition_28 f_X10_faultPosition_56 md_g0 rfl rfl ?_
    refine r_iret dX10_faultPosition_31 rfl (Nat.le_of_ble_eq_true rfl) (Nat.le_of_ble_eq_true rfl) ?_
    exact hp
  · rw [if_neg h5] at hp
    refine r_iconst (q := 9) (v := 1) dX10_faultPosition_8 rfl rfl ?_
    refine r_goto (q := 13) dX10_faultPosition_9 (by decide) ?_
    refine r_putfield (q := 16) dX10_faultPosition_13 f_X10_faultPosition_63 md_g0 rfl rfl (by exact Nat.le_of_ble_eq_true rfl) rfl ?_
    refine WF.cw (md_po (i := 2)) ?_
    refine r_aload_n (q := 17) dX10_faultPosition_16 rfl rfl rfl ?_
    refine r_getfield (q := 20) dX10_faultPosition_17 f_X10_faultPosition_63 md_g0 rfl rfl ?_
    refine r_if_le (q := 27) (q2 := 23) dX10_faultPosition_20 (by decide) rfl (fun h9 => absurd h9 (show ¬ ((1 : Int32) ≤ 0) by decide)) (fun _ => ?_)
    refine r_iconst (q := 24) (v := 0) dX10_faultPosition_23 rfl rfl ?_
    refine r_goto (q := 31) dX10_faultPosition_24 (by decide) ?_
    refine r_iret dX10_faultPosition_31 rfl (Nat.le_of_ble_eq_true rfl) (Nat.le_of_ble_eq_true rfl) ?_
    exact hp
