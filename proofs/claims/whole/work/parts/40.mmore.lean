/-! ===== 40.mmore: the reference: undo, snapshots, input, waiting, the best tub (rows laid by wip/whole/gen/make40.py) ===== -/
set_option maxRecDepth 100000 in
set_option maxHeartbeats 4000000 in
theorem ct_X10_undo {E : xE} {Po : xPo} {w : xW} {m : Nat} {d : xCo} {r : mRs} {o : Nat → Int32} {t : mTx} {n : Nat} (hn : n ≤ 8) (ho : o 1 = nI n) (hp : if n = 0 then Po (.inl (some (.int (0)))) (md E w m d r (upd o 2 1) t) else Po (.inl (some (.int (nI (n - 1))))) (md E w m (cpS d (r.2.2.2 (n - 1))) r (upd (upd o 2 0) 1 (nI (n - 1))) t)) : Ct M_X10_undo E [.ref m] (md E w m d r o t) Po := by
  refine Ct.of (ws2 := xAll) (L := [some (.ref m)]) (by decide +kernel) rfl rfl (List.forall_mem_cons.mpr ⟨rfl, fun _ h => absurd h List.not_mem_nil⟩) (Nat.le_of_ble_eq_true rfl) rfl ?_
  refine r_aload_n (q := 1) dX10_undo_0 rfl rfl rfl ?_
  refine r_aload_n (q := 2) dX10_undo_1 rfl rfl rfl ?_
  refine r_getfield (q := 5) dX10_undo_2 f_X10_undo_72 md_g0 rfl rfl ?_
  refine r_if_ne (q := 12) (q2 := 8) dX10_undo_5 (by decide) rfl (fun h5 => ?_) (fun h5 => ?_)
  · have hn0 : ¬ n = 0 := fun q => h5 (by rw [ho, q]; rfl)
    rw [if_neg hn0] at hp
    obtain ⟨n, rfl⟩ : ∃ k, n = k + 1 := ⟨n - 1, by omega⟩
    rw [Nat.add_sub_cancel] at hp
    refine r_iconst (q := 13) (v := 0) dX10_undo_12 rfl rfl ?_
    refine r_putfield (q := 16) dX10_undo_13 f_X10_undo_63 md_g0 rfl rfl (by exact Nat.le_of_ble_eq_true rfl) rfl ?_
    refine WF.cw (md_po (i := 2)) ?_
    refine r_aload_n (q := 17) dX10_undo_16 rfl rfl rfl ?_
    refine r_getfield (q := 20) dX10_undo_17 f_X10_undo_63 md_g0 rfl rfl ?_
    refine r_if_le (q := 25) (q2 := 23) dX10_undo_20 (by decide) rfl (fun _ => ?_) (fun h9 => absurd (show (0 : Int32) ≤ 0 by decide) h9)
    refine r_aload_n (q := 26) dX10_undo_25 rfl rfl rfl ?_
    refine r_dup (q := 27) dX10_undo_26 rfl rfl ?_
    refine r_getfield (q := 30) dX10_undo_27 f_X10_undo_72 md_g0 rfl rfl ?_
    refine r_iconst (q := 31) (v := 1) dX10_undo_30 rfl rfl ?_
    refine r_isub (q := 32) dX10_undo_31 rfl ?_
    refine r_putfield (q := 35) dX10_undo_32 f_X10_undo_72 md_g0 rfl rfl (by exact Nat.le_of_ble_eq_true rfl) rfl ?_
    refine WF.cw (md_po (i := 1)) ?_
    rw [show upd o 2 0 1 - 1 = nI n from by show o 1 - 1 = _; rw [ho]; exact nI_pred n]
    refine r_aload_n (q := 36) dX10_undo_35 rfl rfl rfl ?_
    refine r_getfield (q := 39) dX10_undo_36 f_X10_undo_22 md_g0 rfl rfl ?_
    refine r_sipush (q := 42) (v := 129) dX10_undo_39 (by decide) rfl ?_
    refine r_aload_n (q := 43) dX10_undo_42 rfl rfl rfl ?_
    refine r_getfield (q := 46) dX10_undo_43 f_X10_undo_72 md_g0 rfl rfl ?_
    refine r_imul (q := 47) dX10_undo_46 rfl ?_
    refine r_aload_n (q := 48) dX10_undo_47 rfl rfl rfl ?_
    refine r_getfield (q := 51) dX10_undo_48 f_X10_undo_9 md_g0 rfl rfl ?_
    refine r_iconst (q := 52) (v := 0) dX10_undo_51 rfl rfl ?_
    refine r_sipush (q := 55) (v := 129) dX10_undo_52 (by decide) rfl ?_
    refine r_copyi (q := 58) dX10_undo_55 a_X10_undo_66 md_g5 md_g1 (sa := 129 * n) (da := 0) (na := 129) (nI_mul 129 n) rfl rfl (by omega) (by decide) (by decide) (Nat.le_of_ble_eq_true rfl) rfl ?_
    refine WF.cw (md_p1 (d2 := cpS d (r.2.2.2 n)) ((flatP_out (by omega)).trans flat_cpS.symm) rfl rfl) ?_
    refine r_aload_n (q := 59) dX10_undo_58 rfl rfl rfl ?_
    refine r_getfield (q := 62) dX10_undo_59 f_X10_undo_72 md_g0 rfl rfl ?_
    refine r_iret dX10_undo_62 rfl (Nat.le_of_ble_eq_true rfl) (Nat.le_of_ble_eq_true rfl) ?_
    exact hp
  · have hn0 : n = 0 := (nI_eq (b := 0) (by omega) (by decide)).mp (ho.symm.trans h5)
    rw [if_pos hn0] at hp
    refine r_iconst (q := 9) (v := 1) dX10_undo_8 rfl rfl ?_
    refine r_goto (q := 13) dX10_undo_9 (by decide) ?_
    refine r_putfield (q := 16) dX10_undo_13 f_X10_undo_63 md_g0 rfl rfl (by exact Nat.le_of_ble_eq_true rfl) rfl ?_
    refine WF.cw (md_po (i := 2)) ?_
    refine r_aload_n (q := 17) dX10_undo_16 rfl rfl rfl ?_
    refine r_getfield (q := 20) dX10_undo_17 f_X10_undo_63 md_g0 rfl rfl ?_
    refine r_if_le (q := 25) (q2 := 23) dX10_undo_20 (by decide) rfl (fun h9 => absurd h9 (show ¬ ((1 : Int32) ≤ 0) by decide)) (fun _ => ?_)
    refine r_iconst (q := 24) (v := 0) dX10_undo_23 rfl rfl ?_
    refine r_iret dX10_undo_24 rfl (Nat.le_of_ble_eq_true rfl) (Nat.le_of_ble_eq_true rfl) ?_
    exact hp
set_option maxRecDepth 100000 in
set_option maxHeartbeats 4000000 in
theorem ct_X10_saveSnapshot {E : xE} {Po : xPo} {w : xW} {m : Nat} {d : xCo} {r : mRs} {o : Nat → Int32} {t : mTx}  (hp : Po (.inl (some (.int (d.1 1)))) (md E w m d (r.1, r.2.1, d, r.2.2.2) (upd (upd o 2 0) 0 1) t)) : Ct M_X10_saveSnapshot E [.ref m] (md E w m d r o t) Po := by
  refine Ct.of (ws2 := xAll) (L := [some (.ref m)]) (by decide +kernel) rfl rfl (List.forall_mem_cons.mpr ⟨rfl, fun _ h => absurd h List.not_mem_nil⟩) (Nat.le_of_ble_eq_true rfl) rfl ?_
  refine r_aload_n (q := 1) dX10_saveSnapshot_0 rfl rfl rfl ?_
  refine r_iconst (q := 2) (v := 0) dX10_saveSnapshot_1 rfl rfl ?_
  refine r_putfield (q := 5) dX10_saveSnapshot_2 f_X10_saveSnapshot_63 md_g0 rfl rfl (by exact Nat.le_of_ble_eq_true rfl) rfl ?_
  refine WF.cw (md_po (i := 2)) ?_
  refine r_aload_n (q := 6) dX10_saveSnapshot_5 rfl rfl rfl ?_
  refine r_getfield (q := 9) dX10_saveSnapshot_6 f_X10_saveSnapshot_9 md_g0 rfl rfl ?_
  refine r_iconst (q := 10) (v := 0) dX10_saveSnapshot_9 rfl rfl ?_
  refine r_aload_n (q := 11) dX10_saveSnapshot_10 rfl rfl rfl ?_
  refine r_getfield (q := 14) dX10_saveSnapshot_11 f_X10_saveSnapshot_19 md_g0 rfl rfl ?_
  refine r_iconst (q := 15) (v := 0) dX10_saveSnapshot_14 rfl rfl ?_
  refine r_sipush (q := 18) (v := 129) dX10_saveSnapshot_15 (by decide) rfl ?_
  refine r_copyi (q := 21) dX10_saveSnapshot_18 a_X10_saveSnapshot_66 md_g1 md_g4 (sa := 0) (da := 0) (na := 129) rfl rfl rfl (by decide) (by decide) (by decide) (Nat.le_of_ble_eq_true rfl) rfl ?_
  refine WF.cw (md_p4 flat_cp) ?_
  refine r_aload_n (q := 22) dX10_saveSnapshot_21 rfl rfl rfl ?_
  refine r_iconst (q := 23) (v := 1) dX10_saveSnapshot_22 rfl rfl ?_
  refine r_putfield (q := 26) dX10_saveSnapshot_23 f_X10_saveSnapshot_279 md_g0 rfl rfl (by exact Nat.le_of_ble_eq_true rfl) rfl ?_
  refine WF.cw (md_po (i := 0)) ?_
  refine r_aload_n (q := 27) dX10_saveSnapshot_26 rfl rfl rfl ?_
  refine r_getfield (q := 30) dX10_saveSnapshot_27 f_X10_saveSnapshot_9 md_g0 rfl rfl ?_
  refine r_iconst (q := 31) (v := 1) dX10_saveSnapshot_30 rfl rfl ?_
  refine r_ldS (q := 32) (k := 1) dX10_saveSnapshot_31 (by decide) rfl ?_
  refine r_iret dX10_saveSnapshot_32 rfl (Nat.le_of_ble_eq_true rfl) (Nat.le_of_ble_eq_true rfl) ?_
  exact hp
set_option maxRecDepth 100000 in
set_option maxHeartbeats 4000000 in
theorem ct_X10_restoreSnapshot {E : xE} {Po : xPo} {w : xW} {m : Nat} {d : xCo} {r : mRs} {o : Nat → Int32} {t : mTx}  (hp : if o 0 = 0 then Po (.inl (some (.int (0)))) (md E w m d r (upd o 2 1) t) else Po (.inl (some (.int (r.2.2.1.1 1)))) (md E w m (cpS d r.2.2.1) r (upd (upd o 2 0) 1 0) t)) : Ct M_X10_restoreSnapshot E [.ref m] (md E w m d r o t) Po := by
  refine Ct.of (ws2 := xAll) (L := [some (.ref m)]) (by decide +kernel) rfl rfl (List.forall_mem_cons.mpr ⟨rfl, fun _ h => absurd h List.not_mem_nil⟩) (Nat.le_of_ble_eq_true rfl) rfl ?_
  refine r_aload_n (q := 1) dX10_restoreSnapshot_0 rfl rfl rfl ?_
  refine r_aload_n (q := 2) dX10_restoreSnapshot_1 rfl rfl rfl ?_
  refine r_getfield (q := 5) dX10_restoreSnapshot_2 f_X10_restoreSnapshot_279 md_g0 rfl rfl ?_
  refine r_if_eq (q := 12) (q2 := 8) dX10_restoreSnapshot_5 (by decide) rfl (fun h5 => ?_) (fun h5 => ?_)
  · rw [if_pos h5] at hp
    refine r_iconst (q := 13) (v := 1) dX10_restoreSnapshot_12 rfl rfl ?_
    refine r_putfield (q := 16) dX10_restoreSnapshot_13 f_X10_restoreSnapshot_63 md_g0 rfl rfl (by exact Nat.le_of_ble_eq_true rfl) rfl ?_
    refine WF.cw (md_po (i := 2)) ?_
    refine r_aload_n (q := 17) dX10_restoreSnapshot_16 rfl rfl rfl ?_
    refine r_getfield (q := 20) dX10_restoreSnapshot_17 f_X10_restoreSnapshot_63 md_g0 rfl rfl ?_
    refine r_if_le (q := 25) (q2 := 23) dX10_restoreSnapshot_20 (by decide) rfl (fun h9 => absurd h9 (show ¬ ((1 : Int32) ≤ 0) by decide)) (fun _ => ?_)
    refine r_iconst (q := 24) (v := 0) dX10_restoreSnapshot_23 rfl rfl ?_
    refine r_iret dX10_restoreSnapshot_24 rfl (Nat.le_of_ble_eq_true rfl) (Nat.le_of_ble_eq_true rfl) ?_
    exact hp
  · rw [if_neg h5] at hp
    refine r_iconst (q := 9) (v := 0) dX10_restoreSnapshot_8 rfl rfl ?_
    refine r_goto (q := 13) dX10_restoreSnapshot_9 (by decide) ?_
    refine r_putfield (q := 16) dX10_restoreSnapshot_13 f_X10_restoreSnapshot_63 md_g0 rfl rfl (by exact Nat.le_of_ble_eq_true rfl) rfl ?_
    refine WF.cw (md_po (i := 2)) ?_
    refine r_aload_n (q := 17) dX10_restoreSnapshot_16 rfl rfl rfl ?_
    refine r_getfield (q := 20) dX10_restoreSnapshot_17 f_X10_restoreSnapshot_63 md_g0 rfl rfl ?_
    refine r_if_le (q := 25) (q2 := 23) dX10_restoreSnapshot_20 (by decide) rfl (fun _ => ?_) (fun h9 => absurd (show (0 : Int32) ≤ 0 by decide) h9)
    refine r_aload_n (q := 26) dX10_restoreSnapshot_25 rfl rfl rfl ?_
    refine r_getfield (q := 29) dX10_restoreSnapshot_26 f_X10_restoreSnapshot_19 md_g0 rfl rfl ?_
    refine r_iconst (q := 30) (v := 0) dX10_restoreSnapshot_29 rfl rfl ?_
    refine r_aload_n (q := 31) dX10_restoreSnapshot_30 rfl rfl rfl ?_
    refine r_getfield (q := 34) dX10_restoreSnapshot_31 f_X10_restoreSnapshot_9 md_g0 rfl rfl ?_
    refine r_iconst (q := 35) (v := 0) dX10_restoreSnapshot_34 rfl rfl ?_
    refine r_sipush (q := 38) (v := 129) dX10_restoreSnapshot_35 (by decide) rfl ?_
    refine r_copyi (q := 41) dX10_restoreSnapshot_38 a_X10_restoreSnapshot_66 md_g4 md_g1 (sa := 0) (da := 0) (na := 129) rfl rfl rfl (by decide) (by decide) (by decide) (Nat.le_of_ble_eq_true rfl) rfl ?_
    refine WF.cw (md_p1 (d2 := cpS d r.2.2.1) (flat_cp.trans flat_cpS.symm) rfl rfl) ?_
    refine r_aload_n (q := 42) dX10_restoreSnapshot_41 rfl rfl rfl ?_
    refine r_iconst (q := 43) (v := 0) dX10_restoreSnapshot_42 rfl rfl ?_
    refine r_putfield (q := 46) dX10_restoreSnapshot_43 f_X10_restoreSnapshot_72 md_g0 rfl rfl (by exact Nat.le_of_ble_eq_true rfl) rfl ?_
    refine WF.cw (md_po (i := 1)) ?_
    refine r_aload_n (q := 47) dX10_restoreSnapshot_46 rfl rfl rfl ?_
    refine r_getfield (q := 50) dX10_restoreSnapshot_47 f_X10_restoreSnapshot_9 md_g0 rfl rfl ?_
    refine r_iconst (q := 51) (v := 1) dX10_restoreSnapshot_50 rfl rfl ?_
    refine r_ldS (q := 52) (k := 1) dX10_restoreSnapshot_51 (by decide) rfl ?_
    refine r_iret dX10_restoreSnapshot_52 rfl (Nat.le_of_ble_eq_true rfl) (Nat.le_of_ble_eq_true rfl) ?_
    exact hp
set_option maxRecDepth 100000 in
set_option maxHeartbeats 4000000 in
theorem ct_X10_feed {E : xE} {Po : xPo} {w : xW} {m : Nat} {d : xCo} {r : mRs} {o : Nat → Int32} {t : mTx} {c : Int32} {n : Nat} (hc : vp_nar .char c = c) (hn : n ≤ 60) (ho : o 7 = nI n) (hp : if n = 60 then Po (.inl (some (.int (0)))) (md E w m d r (upd o 2 1) t) else Po (.inl (some (.int (nI (n + 1))))) (md E w m d r (upd (upd o 2 0) 7 (nI (n + 1))) (t.1, upd t.2.1 n c, t.2.2))) : Ct M_X10_feed E [.ref m, .int c] (md E w m d r o t) Po := by
  refine Ct.of (ws2 := xAll) (L := [some (.ref m), some (.int c)]) (by decide +kernel) rfl rfl (List.forall_mem_cons.mpr ⟨rfl, List.forall_mem_cons.mpr ⟨rfl, fun _ h => absurd h List.not_mem_nil⟩⟩) (Nat.le_of_ble_eq_true rfl) rfl ?_
  refine r_aload_n (q := 1) dX10_feed_0 rfl rfl rfl ?_
  refine r_aload_n (q := 2) dX10_feed_1 rfl rfl rfl ?_
  refine r_getfield (q := 5) dX10_feed_2 f_X10_feed_244 md_g0 rfl rfl ?_
  refine r_bipush (q := 7) (v := 60) dX10_feed_5 (by decide) rfl ?_
  refine r_icmp_ne (q := 14) (q2 := 10) dX10_feed_7 (by decide) rfl (fun h7 => ?_) (fun h7 => ?_)
  · have hn0 : ¬ n = 60 := fun q => h7 (by rw [ho, q]; rfl)
    rw [if_neg hn0] at hp
    refine r_iconst (q := 15) (v := 0) dX10_feed_14 rfl rfl ?_
    refine r_putfield (q := 18) dX10_feed_15 f_X10_feed_63 md_g0 rfl rfl (by exact Nat.le_of_ble_eq_true rfl) rfl ?_
    refine WF.cw (md_po (i := 2)) ?_
    refine r_aload_n (q := 19) dX10_feed_18 rfl rfl rfl ?_
    refine r_getfield (q := 22) dX10_feed_19 f_X10_feed_63 md_g0 rfl rfl ?_
    refine r_if_le (q := 27) (q2 := 25) dX10_feed_22 (by decide) rfl (fun _ => ?_) (fun h9 => absurd (show (0 : Int32) ≤ 0 by decide) h9)
    refine r_aload_n (q := 28) dX10_feed_27 rfl rfl rfl ?_
    refine r_getfield (q := 31) dX10_feed_28 f_X10_feed_53 md_g0 rfl rfl ?_
    refine r_aload_n (q := 32) dX10_feed_31 rfl rfl rfl ?_
    refine r_getfield (q := 35) dX10_feed_32 f_X10_feed_244 md_g0 rfl rfl ?_
    rw [show upd o 2 0 7 = nI n from ho]
    refine r_iload_n (q := 36) dX10_feed_35 rfl rfl rfl ?_
    refine r_castore (q := 37) dX10_feed_36 md_g8 (vp_in_nI (by omega) (by decide)) rfl ?_
    rw [nI_cl (by omega), hc]
    refine WF.cw md_p8 ?_
    refine r_aload_n (q := 38) dX10_feed_37 rfl rfl rfl ?_
    refine r_dup (q := 39) dX10_feed_38 rfl rfl ?_
    refine r_getfield (q := 42) dX10_feed_39 f_X10_feed_244 md_g0 rfl rfl ?_
    refine r_iconst (q := 43) (v := 1) dX10_feed_42 rfl rfl ?_
    refine r_iadd (q := 44) dX10_feed_43 rfl ?_
    refine r_putfield (q := 47) dX10_feed_44 f_X10_feed_244 md_g0 rfl rfl (by exact Nat.le_of_ble_eq_true rfl) rfl ?_
    refine WF.cw (md_po (i := 7)) ?_
    rw [show upd o 2 0 7 + 1 = nI (n + 1) from by show o 7 + 1 = _; rw [ho]; exact nI_1 n]
    refine r_aload_n (q := 48) dX10_feed_47 rfl rfl rfl ?_
    refine r_getfield (q := 51) dX10_feed_48 f_X10_feed_244 md_g0 rfl rfl ?_
    refine r_iret dX10_feed_51 rfl (Nat.le_of_ble_eq_true rfl) (Nat.le_of_ble_eq_true rfl) ?_
    exact hp
  · have hn0 : n = 60 := (nI_eq (b := 60) (by omega) (by decide)).mp (ho.symm.trans h7)
    rw [if_pos hn0] at hp
    refine r_iconst (q := 11) (v := 1) dX10_feed_10 rfl rfl ?_
    refine r_goto (q := 15) dX10_feed_11 (by decide) ?_
    refine r_putfield (q := 18) dX10_feed_15 f_X10_feed_63 md_g0 rfl rfl (by exact Nat.le_of_ble_eq_true rfl) rfl ?_
    refine WF.cw (md_po (i := 2)) ?_
    refine r_aload_n (q := 19) dX10_feed_18 rfl rfl rfl ?_
    refine r_getfield (q := 22) dX10_feed_19 f_X10_feed_63 md_g0 rfl rfl ?_
    refine r_if_le (q := 27) (q2 := 25) dX10_feed_22 (by decide) rfl (fun h9 => absurd h9 (show ¬ ((1 : Int32) ≤ 0) by decide)) (fun _ => ?_)
    refine r_iconst (q := 26) (v := 0) dX10_feed_25 rfl rfl ?_
    refine r_iret dX10_feed_26 rfl (Nat.le_of_ble_eq_true rfl) (Nat.le_of_ble_eq_true rfl) ?_
    exact hp
set_option maxRecDepth 100000 in
set_option maxHeartbeats 4000000 in
theorem ct_X10_character {E : xE} {Po : xPo} {w : xW} {m : Nat} {d : xCo} {r : mRs} {o : Nat → Int32} {t : mTx} {y : Int32} {n : Nat} (hn : n ≤ 60) (ho : o 6 = nI n) (hch : ∀ k, k < n → narrow .char (.int (t.1 k)) = .int (t.1 k)) (hp : if y < 0 ∨ nI n - 1 < y then Po (.inl (some (.int (32)))) (md E w m d r (upd o 2 1) t) else Po (.inl (some (.int (t.1 y.toNatClampNeg)))) (md E w m d r (upd o 2 0) t)) : Ct M_X10_character E [.ref m, .int y] (md E w m d r o t) Po := by
  refine Ct.of (ws2 := xAll) (L := [some (.ref m), some (.int y)]) (by decide +kernel) rfl rfl (List.forall_mem_cons.mpr ⟨rfl, List.forall_mem_cons.mpr ⟨rfl, fun _ h => absurd h List.not_mem_nil⟩⟩) (Nat.le_of_ble_eq_true rfl) rfl ?_
  refine r_aload_n (q := 1) dX10_character_0 rfl rfl rfl ?_
  refine r_iload_n (q := 2) dX10_character_1 rfl rfl rfl ?_
  refine r_iconst (q := 3) (v := 0) dX10_character_2 rfl rfl ?_
  refine r_aload_n (q := 4) dX10_character_3 rfl rfl rfl ?_
  refine r_getfield (q := 7) dX10_character_4 f_X10_character_201 md_g0 rfl rfl ?_
  rw [ho]
  refine r_iconst (q := 8) (v := 1) dX10_character_7 rfl rfl ?_
  refine r_isub (q := 9) dX10_character_8 rfl ?_
  refine r_callS (q := 12) (As := [_, _, _]) dX10_character_9 s_X10_character_85 rfl rfl (Nat.le_of_ble_eq_true rfl) rfl rfl rfl (Nat.le_of_ble_eq_true rfl) (Nat.le_of_ble_eq_true rfl) ⟨(Nat.le_of_ble_eq_true rfl), (Nat.le_of_ble_eq_true rfl)⟩ rfl ?_
  refine ct_X10_in (fun hi => ?_) (fun hi => ?_)
  · show WF _ E Po _ _ _ _ _ _ _
    rw [if_neg hi] at hp
    obtain ⟨k, hk, rfl⟩ : ∃ k, k < n ∧ y = nI k := by
      have h3 := (in_cnt (K := 60) hn (by decide)).mp hi
      exact ixOf (by omega) h3.1 h3.2.1
    rw [nI_cl (by omega)] at hp
    refine r_if_eq (q := 19) (q2 := 15) dX10_character_12 (by decide) rfl (fun h9 => absurd h9 (by decide)) (fun _ => ?_)
    refine r_iconst (q := 16) (v := 0) dX10_character_15 rfl rfl ?_
    refine r_goto (q := 20) dX10_character_16 (by decide) ?_
    refine r_putfield (q := 23) dX10_character_20 f_X10_character_63 md_g0 rfl rfl (by exact Nat.le_of_ble_eq_true rfl) rfl ?_
    refine WF.cw (md_po (i := 2)) ?_
    refine r_aload_n (q := 24) dX10_character_23 rfl rfl rfl ?_
    refine r_getfield (q := 27) dX10_character_24 f_X10_character_63 md_g0 rfl rfl ?_
    refine r_if_le (q := 35) (q2 := 30) dX10_character_27 (by decide) rfl (fun _ => ?_) (fun h9 => absurd (show (0 : Int32) ≤ 0 by decide) h9)
    refine r_aload_n (q := 36) dX10_character_35 rfl rfl rfl ?_
    refine r_getfield (q := 39) dX10_character_36 f_X10_character_25 md_g0 rfl rfl ?_
    refine r_iload_n (q := 40) dX10_character_39 rfl rfl rfl ?_
    refine r_caload (q := 41) dX10_character_40 md_g6 (vp_in_nI (by omega) (by decide)) rfl ?_
    rw [nI_cl (by omega)]
    refine r_zret dX10_character_41 rfl (by first | decide | exact hch k hk) (Nat.le_of_ble_eq_true rfl) (Nat.le_of_ble_eq_true rfl) ?_
    exact hp
  · show WF _ E Po _ _ _ _ _ _ _
    rw [if_pos hi] at hp
    refine r_if_eq (q := 19) (q2 := 15) dX10_character_12 (by decide) rfl (fun _ => ?_) (fun h9 => absurd rfl h9)
    refine r_iconst (q := 20) (v := 1) dX10_character_19 rfl rfl ?_
    refine r_putfield (q := 23) dX10_character_20 f_X10_character_63 md_g0 rfl rfl (by exact Nat.le_of_ble_eq_true rfl) rfl ?_
    refine WF.cw (md_po (i := 2)) ?_
    refine r_aload_n (q := 24) dX10_character_23 rfl rfl rfl ?_
    refine r_getfield (q := 27) dX10_character_24 f_X10_character_63 md_g0 rfl rfl ?_
    refine r_if_le (q := 35) (q2 := 30) dX10_character_27 (by decide) rfl (fun h9 => absurd h9 (show ¬ ((1 : Int32) ≤ 0) by decide)) (fun _ => ?_)
    refine r_bipush (q := 32) (v := 32) dX10_character_30 (by decide) rfl ?_
    refine r_goto (q := 41) dX10_character_32 (by decide) ?_
    refine r_zret dX10_character_41 rfl (by first | decide | exact hch k hk) (Nat.le_of_ble_eq_true rfl) (Nat.le_of_ble_eq_true rfl) ?_
    exact hp
theorem gAt_in {f : Nat → Int32} {mm j : Nat} (h : f 4 = nI mm) (hm : mm ≤ 6) (hj : j < mm) : gAtS f (nI j) = f (5 + j) := by
  unfold gAtS
  have hneg : ¬ (nI j < 0 ∨ f 4 ≤ nI j ∨ 6 ≤ nI j) := by
    rw [h]
    rintro (a | a | a)
    · exact nI_pos (by omega) a
    · have := (nI_leI (by omega) (by omega)).mp a; omega
    · have := (nI_leI (a := 6) (by omega) (by omega)).mp a; omega
  rw [if_neg hneg, nI_cl (by omega)]
set_option maxRecDepth 100000 in
set_option maxHeartbeats 4000000 in
theorem lp_X10_waitsIn {E : xE} {Po : xPo} {w0 w : xW} {m : Nat} {d : xCo} {r : mRs} {o : Nat → Int32} {t : mTx} {x : Int32} {u mm : Nat} (hu : u < 5) (hm : mm ≤ 6) (em : d.2.2.1 u 4 = nI mm) (goal : Int32 → Prop) (h1 : goal 1 → Po (.inl (some (.int 1))) (md E w m d r o t)) (h0 : goal 0 → WF M_X10_waits E Po w0 44 [some (.ref m), some (.int x), some (.int (nI u)), some (.int (nI mm))] [] (md E w m d r o t) 0 0) (n9 : Nat) : ∀ (p : Nat) (hj : p ≤ mm) (hp : goal (awS (d.2.2.1 u) x (mm - p) p)) (hn9 : mm - p < n9), WF M_X10_waits E Po w0 14 [some (.ref m), some (.int x), some (.int (nI u)), some (.int (nI p))] [] (md E w m d r o t) 0 0 := by
  induction n9 with
  | zero => intro p hj hp hn9; exact absurd hn9 (Nat.not_lt_zero _)
  | succ n9 ih =>
    intro p hj hp hn9
    refine r_iload_n (q := 15) dX10_waits_14 rfl rfl rfl ?_
    refine r_aload_n (q := 16) dX10_waits_15 rfl rfl rfl ?_
    refine r_iload_n (q := 17) dX10_waits_16 rfl rfl rfl ?_
    refine r_iconst (q := 18) (v := 4) dX10_waits_17 rfl rfl ?_
    refine r_callV (q := 21) (ci := 12) (As := [_, _]) dX10_waits_18 s_X10_waits_134 md_g0 rfl rfl rfl (Nat.le_of_ble_eq_true rfl) rfl rfl rfl (Nat.le_of_ble_eq_true rfl) (Nat.le_of_ble_eq_true rfl) ⟨(Nat.le_of_ble_eq_true rfl), (Nat.le_of_ble_eq_true rfl)⟩ rfl ?_
    refine ct_X10_tent1 (k := 4) hu (by decide) ?_
    show WF _ E Po _ _ _ _ _ _ _
    rw [em]
    refine r_icmp_ge (q := 44) (q2 := 24) dX10_waits_21 (by decide) rfl (fun h21 => ?_) (fun h21 => ?_)
    · obtain rfl : p = mm := by have := (nI_leI (by omega) (by omega)).mp h21; omega
      rw [Nat.sub_self] at hp
      exact h0 hp
    · have hpm : p < mm := by
        have : ¬ mm ≤ p := fun q => h21 ((nI_leI (by omega) (by omega)).mpr q)
        omega
      obtain ⟨z, hz⟩ : ∃ z, mm - p = z + 1 := ⟨mm - p - 1, by omega⟩
      rw [hz, awS, gAt_in em hm hpm] at hp
      refine r_aload_n (q := 25) dX10_waits_24 rfl rfl rfl ?_
      refine r_iload_n (q := 26) dX10_waits_25 rfl rfl rfl ?_
      refine r_iconst (q := 27) (v := 5) dX10_waits_26 rfl rfl ?_
      refine r_iload_n (q := 28) dX10_waits_27 rfl rfl rfl ?_
      refine r_iadd (q := 29) dX10_waits_28 rfl ?_
      rw [show (5 : Int32) + nI p = nI (5 + p) from nI_add 5 p]
      refine r_callV (q := 32) (ci := 12) (As := [_, _]) dX10_waits_29 s_X10_waits_134 md_g0 rfl rfl rfl (Nat.le_of_ble_eq_true rfl) rfl rfl rfl (Nat.le_of_ble_eq_true rfl) (Nat.le_of_ble_eq_true rfl) ⟨(Nat.le_of_ble_eq_true rfl), (Nat.le_of_ble_eq_true rfl)⟩ rfl ?_
      refine ct_X10_tent1 hu (by omega : 5 + p < 11) ?_
      show WF _ E Po _ _ _ _ _ _ _
      refine r_iload_n (q := 33) dX10_waits_32 rfl rfl rfl ?_
      refine r_icmp_ne (q := 38) (q2 := 36) dX10_waits_33 (by decide) rfl (fun h33 => ?_) (fun h33 => ?_)
      · rw [if_neg h33] at hp
        refine r_iinc (q := 41) dX10_waits_38 rfl (Nat.le_of_ble_eq_true rfl) (xone_of rfl) rfl ?_
        rw [show nI p + Int32.ofInt 1 = nI (p + 1) from nI_1 p]
        refine r_goto (q := 14) dX10_waits_41 (by decide) ?_
        exact ih (p + 1) (by omega) (by rw [show mm - (p + 1) = z by omega]; exact hp) (by omega)
      · rw [if_pos h33] at hp
        refine r_iconst (q := 37) (v := 1) dX10_waits_36 rfl rfl ?_
        refine r_zret dX10_waits_37 rfl (by decide) (Nat.le_of_ble_eq_true rfl) (Nat.le_of_ble_eq_true rfl) ?_
        exact h1 hp
set_option maxRecDepth 100000 in
set_option maxHeartbeats 4000000 in
theorem lp_X10_waits {E : xE} {Po : xPo} {w0 w : xW} {m : Nat} {d : xCo} {r : mRs} {o : Nat → Int32} {t : mTx} {x : Int32} {N : Nat} (hc : inC d) (hN : N ≤ 5) (eN : d.1 2 = nI N) (n9 : Nat) : ∀ (u : Nat) (o3 : Option Value) (hj : u ≤ N) (hp : Po (.inl (some (.int (awtS d x (N - u) u)))) (md E w m d r o t)) (hn9 : N - u < n9), WF M_X10_waits E Po w0 2 [some (.ref m), some (.int x), some (.int (nI u)), o3] [] (md E w m d r o t) 0 0 := by
  induction n9 with
  | zero => intro u o3 hj hp hn9; exact absurd hn9 (Nat.not_lt_zero _)
  | succ n9 ih =>
    intro u o3 hj hp hn9
    refine r_iload_n (q := 3) dX10_waits_2 rfl rfl rfl ?_
    refine r_aload_n (q := 4) dX10_waits_3 rfl rfl rfl ?_
    refine r_getfield (q := 7) dX10_waits_4 f_X10_waits_9 md_g0 rfl rfl ?_
    refine r_iconst (q := 8) (v := 2) dX10_waits_7 rfl rfl ?_
    refine r_ldS (q := 9) (k := 2) dX10_waits_8 (by decide) rfl ?_
    rw [eN]
    refine r_icmp_ge (q := 50) (q2 := 12) dX10_waits_9 (by decide) rfl (fun h9 => ?_) (fun h9 => ?_)
    · obtain rfl : u = N := by have := (nI_leI (by omega) (by omega)).mp h9; omega
      rw [Nat.sub_self] at hp
      refine r_iconst (q := 51) (v := 0) dX10_waits_50 rfl rfl ?_
      refine r_zret dX10_waits_51 rfl (by decide) (Nat.le_of_ble_eq_true rfl) (Nat.le_of_ble_eq_true rfl) ?_
      exact hp
    · have huN : u < N := by
        have : ¬ N ≤ u := fun q => h9 ((nI_leI (by omega) (by omega)).mpr q)
        omega
      have hu : u < 5 := by omega
      obtain ⟨z, hz⟩ : ∃ z, N - u = z + 1 := ⟨N - u - 1, by omega⟩
      obtain ⟨mm, hm, em⟩ := hc.2.2.2 u hu
      rw [hz, awtS, em, nI_cl (by omega)] at hp
      refine r_iconst (q := 13) (v := 0) dX10_waits_12 rfl rfl ?_
      refine r_istore_n (q := 14) dX10_waits_13 rfl (Nat.le_of_ble_eq_true rfl) (xone_of rfl) rfl ?_
      refine lp_X10_waitsIn hu hm em (fun v => v = awS (d.2.2.1 u) x mm 0) (fun g => ?_) (fun g => ?_) (mm + 1) 0 (Nat.zero_le _) rfl (by omega)
      · rw [← g, if_neg (by decide)] at hp
        exact hp
      · rw [← g, if_pos rfl] at hp
        refine r_iinc (q := 47) dX10_waits_44 rfl (Nat.le_of_ble_eq_true rfl) (xone_of rfl) rfl ?_
        rw [show nI u + Int32.ofInt 1 = nI (u + 1) from nI_1 u]
        refine r_goto (q := 2) dX10_waits_47 (by decide) ?_
        exact ih (u + 1) _ (by omega) (by rw [show N - (u + 1) = z by omega]; exact hp) (by omega)
set_option maxRecDepth 100000 in
set_option maxHeartbeats 4000000 in
theorem ct_X10_waits {E : xE} {Po : xPo} {w : xW} {m : Nat} {d : xCo} {r : mRs} {o : Nat → Int32} {t : mTx} {x : Int32} {N : Nat} (hc : inC d) (hN : N ≤ 5) (eN : d.1 2 = nI N) (hp : Po (.inl (some (.int (awtS d x N 0)))) (md E w m d r o t)) : Ct M_X10_waits E [.ref m, .int x] (md E w m d r o t) Po := by
  refine Ct.of (ws2 := xAll) (L := [some (.ref m), some (.int x), none, none]) (by decide +kernel) rfl rfl (List.forall_mem_cons.mpr ⟨rfl, List.forall_mem_cons.mpr ⟨rfl, fun _ h => absurd h List.not_mem_nil⟩⟩) (Nat.le_of_ble_eq_true rfl) rfl ?_
  refine r_iconst (q := 1) (v := 0) dX10_waits_0 rfl rfl ?_
  refine r_istore_n (q := 2) dX10_waits_1 rfl (Nat.le_of_ble_eq_true rfl) (xone_of rfl) rfl ?_
  exact lp_X10_waits hc hN eN (N + 1) 0 _ (Nat.zero_le _) hp (by omega)
/-- hours until a guest is gone, at most so many -/
def mbF (x : Int32) (N : Nat) : Nat → Nat → xCo → Nat × xCo
  | 0, h, c => (h, c)
  | n + 1, h, c => if awtS c x N 0 = 0 then (h, c) else mbF x N n (h + 1) (mHour c).2
/-- what an hour keeps of the counts -/
def Kq (d e : xCo) : Prop := ∀ k, k = 1 ∨ k = 2 ∨ k = 3 → e.1 k = d.1 k
set_option maxRecDepth 100000 in
set_option maxHeartbeats 4000000 in
theorem lp_X10_bathesIn {E : xE} {Po : xPo} {w0 w : xW} {m : Nat} {d9 : xCo} {r : mRs} {o : Nat → Int32} {t : mTx} {x y : Int32} {N : Nat} (inv : xCo → Prop) (hi : ∀ c, inv c → inC c ∧ inH c N ∧ inv (mHour c).2) (kx : ∀ (c : xCo) (h : Nat) (o4 : Option Value), inv c → (h, c) = mbF x N 60 0 d9 → WF M_X10_bathesIn E Po w0 50 [some (.ref m), some (.int x), some (.int (nI h)), some (.int y), o4] [] (md E w m c r o t) 0 0) (n9 : Nat) : ∀ (n h : Nat) (c : xCo) (o4 : Option Value) (hh : h + n = 60) (hc : inv c) (hp : mbF x N n h c = mbF x N 60 0 d9) (hn9 : n < n9), WF M_X10_bathesIn E Po w0 24 [some (.ref m), some (.int x), some (.int (nI h)), some (.int y), o4] [] (md E w m c r o t) 0 0 := by
  induction n9 with
  | zero => intro n h c o4 hh hc hp hn9; exact absurd hn9 (Nat.not_lt_zero _)
  | succ n9 ih =>
    intro n h c o4 hh hc hp hn9
    obtain ⟨c1, c2, c3⟩ := hi c hc
    refine r_aload_n (q := 25) dX10_bathesIn_24 rfl rfl rfl ?_
    refine r_iload_n (q := 26) dX10_bathesIn_25 rfl rfl rfl ?_
    refine r_callV (q := 29) (ci := 12) (As := [_]) dX10_bathesIn_26 s_X10_bathesIn_195 md_g0 rfl rfl rfl (Nat.le_of_ble_eq_true rfl) rfl rfl rfl (Nat.le_of_ble_eq_true rfl) (Nat.le_of_ble_eq_true rfl) ⟨(Nat.le_of_ble_eq_true rfl), (Nat.le_of_ble_eq_true rfl)⟩ rfl ?_
    refine ct_X10_waits c1 c2.1 c2.2.1 ?_
    show WF _ E Po _ _ _ _ _ _ _
    rcases awtS_01 (c := c) (x := x) N 0 with ew | ew
    · rw [ew]
      have hk : mbF x N n h c = (h, c) := by
        cases n with
        | zero => rfl
        | succ n => rw [mbF, if_pos ew]
      rw [hk] at hp
      refine r_if_eq (q := 50) (q2 := 32) dX10_bathesIn_29 (by decide) rfl (fun _ => ?_) (fun h9 => absurd rfl h9)
      exact kx c h _ hc hp
    · rw [ew]
      refine r_if_eq (q := 50) (q2 := 32) dX10_bathesIn_29 (by decide) rfl (fun h9 => absurd h9 (by decide)) (fun _ => ?_)
      refine r_iload_n (q := 33) dX10_bathesIn_32 rfl rfl rfl ?_
      refine r_bipush (q := 35) (v := 60) dX10_bathesIn_33 (by decide) rfl ?_
      refine r_icmp_ge (q := 50) (q2 := 38) dX10_bathesIn_35 (by decide) rfl (fun h35 => ?_) (fun h35 => ?_)
      · obtain rfl : n = 0 := by have := (nI_leI (a := 60) (by omega) (by omega)).mp h35; omega
        have hk : mbF x N 0 h c = (h, c) := rfl
        rw [hk] at hp
        exact kx c h _ hc hp
      · have h60 : ¬ 60 ≤ h := fun q => h35 ((nI_leI (a := 60) (by omega) (by omega)).mpr q)
        obtain ⟨n2, rfl⟩ : ∃ k, n = k + 1 := ⟨n - 1, by omega⟩
        rw [mbF, if_neg (by rw [ew]; decide)] at hp
        refine r_aload_n (q := 39) dX10_bathesIn_38 rfl rfl rfl ?_
        refine r_callV (q := 42) (ci := 12) (As := []) dX10_bathesIn_39 s_X10_bathesIn_185 md_g0 rfl rfl rfl (Nat.le_of_ble_eq_true rfl) rfl rfl rfl (Nat.le_of_ble_eq_true rfl) (Nat.le_of_ble_eq_true rfl) ⟨(Nat.le_of_ble_eq_true rfl), (Nat.le_of_ble_eq_true rfl)⟩ rfl ?_
        refine ct_X10_goHour c2 ?_
        show WF _ E Po _ _ _ _ _ _ _
        refine r_istore (q := 44) dX10_bathesIn_42 (Nat.le_of_ble_eq_true rfl) (xone_of rfl) rfl ?_
        refine r_iinc (q := 47) dX10_bathesIn_44 rfl (Nat.le_of_ble_eq_true rfl) (xone_of rfl) rfl ?_
        rw [show nI h + Int32.ofInt 1 = nI (h + 1) from nI_1 h]
        refine r_goto (q := 24) dX10_bathesIn_47 (by decide) ?_
        exact ih n2 (h + 1) _ _ (by omega) c3 hp (by omega)
set_option maxRecDepth 100000 in
set_option maxHeartbeats 4000000 in
theorem ct_X10_bathesIn {E : xE} {Po : xPo} {w : xW} {m : Nat} {d : xCo} {r : mRs} {o : Nat → Int32} {t : mTx} {x : Int32} {N : Nat} (inv : xCo → Prop) (hi : ∀ c, inv c → inC c ∧ inH c N ∧ inv (mHour c).2) (hd : inv d) (hp : if awtS d x N 0 = 0 ∨ ¬ awtS (mbF x N 60 0 d).2 x N 0 = 0 then Po (.inl (some (.int 0))) (md E w m (cpS (mbF x N 60 0 d).2 d) (r.1, d, r.2.2) (upd o 2 1) t) else Po (.inl (some (.int (nI (mbF x N 60 0 d).1)))) (md E w m (cpS (mbF x N 60 0 d).2 d) (r.1, d, r.2.2) (upd o 2 0) t)) : Ct M_X10_bathesIn E [.ref m, .int x] (md E w m d r o t) Po := by
  refine Ct.of (ws2 := xAll) (L := [some (.ref m), some (.int x), none, none, none]) (by decide +kernel) rfl rfl (List.forall_mem_cons.mpr ⟨rfl, List.forall_mem_cons.mpr ⟨rfl, fun _ h => absurd h List.not_mem_nil⟩⟩) (Nat.le_of_ble_eq_true rfl) rfl ?_
  obtain ⟨c1, c2, -⟩ := hi d hd
  refine r_aload_n (q := 1) dX10_bathesIn_0 rfl rfl rfl ?_
  refine r_getfield (q := 4) dX10_bathesIn_1 f_X10_bathesIn_9 md_g0 rfl rfl ?_
  refine r_iconst (q := 5) (v := 0) dX10_bathesIn_4 rfl rfl ?_
  refine r_aload_n (q := 6) dX10_bathesIn_5 rfl rfl rfl ?_
  refine r_getfield (q := 9) dX10_bathesIn_6 f_X10_bathesIn_16 md_g0 rfl rfl ?_
  refine r_iconst (q := 10) (v := 0) dX10_bathesIn_9 rfl rfl ?_
  refine r_sipush (q := 13) (v := 129) dX10_bathesIn_10 (by decide) rfl ?_
  refine r_copyi (q := 16) dX10_bathesIn_13 a_X10_bathesIn_66 md_g1 md_g3 (sa := 0) (da := 0) (na := 129) rfl rfl rfl (by decide) (by decide) (by decide) (Nat.le_of_ble_eq_true rfl) rfl ?_
  refine WF.cw (md_p3 flat_cp) ?_
  refine r_iconst (q := 17) (v := 0) dX10_bathesIn_16 rfl rfl ?_
  refine r_istore_n (q := 18) dX10_bathesIn_17 rfl (Nat.le_of_ble_eq_true rfl) (xone_of rfl) rfl ?_
  refine r_aload_n (q := 19) dX10_bathesIn_18 rfl rfl rfl ?_
  refine r_iload_n (q := 20) dX10_bathesIn_19 rfl rfl rfl ?_
  refine r_callV (q := 23) (ci := 12) (As := [_]) dX10_bathesIn_20 s_X10_bathesIn_195 md_g0 rfl rfl rfl (Nat.le_of_ble_eq_true rfl) rfl rfl rfl (Nat.le_of_ble_eq_true rfl) (Nat.le_of_ble_eq_true rfl) ⟨(Nat.le_of_ble_eq_true rfl), (Nat.le_of_ble_eq_true rfl)⟩ rfl ?_
  refine ct_X10_waits c1 c2.1 c2.2.1 ?_
  show WF _ E Po _ _ _ _ _ _ _
  refine r_istore_n (q := 24) dX10_bathesIn_23 rfl (Nat.le_of_ble_eq_true rfl) (xone_of rfl) rfl ?_
  refine lp_X10_bathesIn inv hi (fun c h o4 hc he => ?_) 61 60 0 d _ rfl hd rfl (by decide)
  rw [← he] at hp
  obtain ⟨k1, k2, -⟩ := hi c hc
  refine r_aload_n (q := 51) dX10_bathesIn_50 rfl rfl rfl ?_
  refine r_iload_n (q := 52) dX10_bathesIn_51 rfl rfl rfl ?_
  refine r_if_eq (q := 63) (q2 := 55) dX10_bathesIn_52 (by decide) rfl (fun h52 => ?_) (fun h52 => ?_)
  · rw [if_pos (Or.inl h52)] at hp
    refine r_iconst (q := 64) (v := 1) dX10_bathesIn_63 rfl rfl ?_
    refine r_goto (q := 68) dX10_bathesIn_64 (by decide) ?_
    refine r_putfield (q := 71) dX10_bathesIn_68 f_X10_bathesIn_63 md_g0 rfl rfl (by exact Nat.le_of_ble_eq_true rfl) rfl ?_
    refine WF.cw (md_po (i := 2)) ?_
    refine r_aload_n (q := 72) dX10_bathesIn_71 rfl rfl rfl ?_
    refine r_getfield (q := 75) dX10_bathesIn_72 f_X10_bathesIn_16 md_g0 rfl rfl ?_
    refine r_iconst (q := 76) (v := 0) dX10_bathesIn_75 rfl rfl ?_
    refine r_aload_n (q := 77) dX10_bathesIn_76 rfl rfl rfl ?_
    refine r_getfield (q := 80) dX10_bathesIn_77 f_X10_bathesIn_9 md_g0 rfl rfl ?_
    refine r_iconst (q := 81) (v := 0) dX10_bathesIn_80 rfl rfl ?_
    refine r_sipush (q := 84) (v := 129) dX10_bathesIn_81 (by decide) rfl ?_
    refine r_copyi (q := 87) dX10_bathesIn_84 a_X10_bathesIn_66 md_g3 md_g1 (sa := 0) (da := 0) (na := 129) rfl rfl rfl (by decide) (by decide) (by decide) (Nat.le_of_ble_eq_true rfl) rfl ?_
    refine WF.cw (md_p1 (d2 := cpS c d) (flat_cp.trans flat_cpS.symm) rfl rfl) ?_
    refine r_aload_n (q := 88) dX10_bathesIn_87 rfl rfl rfl ?_
    refine r_getfield (q := 91) dX10_bathesIn_88 f_X10_bathesIn_63 md_g0 rfl rfl ?_
    refine r_if_le (q := 98) (q2 := 94) dX10_bathesIn_91 (by decide) rfl (fun h9 => absurd h9 (show ¬ ((1 : Int32) ≤ 0) by decide)) (fun _ => ?_)
    refine r_iconst (q := 95) (v := 0) dX10_bathesIn_94 rfl rfl ?_
    refine r_goto (q := 99) dX10_bathesIn_95 (by decide) ?_
    refine r_iret dX10_bathesIn_99 rfl (Nat.le_of_ble_eq_true rfl) (Nat.le_of_ble_eq_true rfl) ?_
    exact hp
  · have h52n := h52
    refine r_aload_n (q := 56) dX10_bathesIn_55 rfl rfl rfl ?_
    refine r_iload_n (q := 57) dX10_bathesIn_56 rfl rfl rfl ?_
    refine r_callV (q := 60) (ci := 12) (As := [_]) dX10_bathesIn_57 s_X10_bathesIn_195 md_g0 rfl rfl rfl (Nat.le_of_ble_eq_true rfl) rfl rfl rfl (Nat.le_of_ble_eq_true rfl) (Nat.le_of_ble_eq_true rfl) ⟨(Nat.le_of_ble_eq_true rfl), (Nat.le_of_ble_eq_true rfl)⟩ rfl ?_
    refine ct_X10_waits k1 k2.1 k2.2.1 ?_
    show WF _ E Po _ _ _ _ _ _ _
    refine r_if_eq (q := 67) (q2 := 63) dX10_bathesIn_60 (by decide) rfl (fun h60 => ?_) (fun h60 => ?_)
    · rw [if_neg (fun q => q.elim h52n (fun z => z h60))] at hp
      refine r_iconst (q := 68) (v := 0) dX10_bathesIn_67 rfl rfl ?_
      refine r_putfield (q := 71) dX10_bathesIn_68 f_X10_bathesIn_63 md_g0 rfl rfl (by exact Nat.le_of_ble_eq_true rfl) rfl ?_
      refine WF.cw (md_po (i := 2)) ?_
      refine r_aload_n (q := 72) dX10_bathesIn_71 rfl rfl rfl ?_
      refine r_getfield (q := 75) dX10_bathesIn_72 f_X10_bathesIn_16 md_g0 rfl rfl ?_
      refine r_iconst (q := 76) (v := 0) dX10_bathesIn_75 rfl rfl ?_
      refine r_aload_n (q := 77) dX10_bathesIn_76 rfl rfl rfl ?_
      refine r_getfield (q := 80) dX10_bathesIn_77 f_X10_bathesIn_9 md_g0 rfl rfl ?_
      refine r_iconst (q := 81) (v := 0) dX10_bathesIn_80 rfl rfl ?_
      refine r_sipush (q := 84) (v := 129) dX10_bathesIn_81 (by decide) rfl ?_
      refine r_copyi (q := 87) dX10_bathesIn_84 a_X10_bathesIn_66 md_g3 md_g1 (sa := 0) (da := 0) (na := 129) rfl rfl rfl (by decide) (by decide) (by decide) (Nat.le_of_ble_eq_true rfl) rfl ?_
      refine WF.cw (md_p1 (d2 := cpS c d) (flat_cp.trans flat_cpS.symm) rfl rfl) ?_
      refine r_aload_n (q := 88) dX10_bathesIn_87 rfl rfl rfl ?_
      refine r_getfield (q := 91) dX10_bathesIn_88 f_X10_bathesIn_63 md_g0 rfl rfl ?_
      refine r_if_le (q := 98) (q2 := 94) dX10_bathesIn_91 (by decide) rfl (fun _ => ?_) (fun h9 => absurd (show (0 : Int32) ≤ 0 by decide) h9)
      refine r_iload_n (q := 99) dX10_bathesIn_98 rfl rfl rfl ?_
      refine r_iret dX10_bathesIn_99 rfl (Nat.le_of_ble_eq_true rfl) (Nat.le_of_ble_eq_true rfl) ?_
      exact hp
    · rw [if_pos (Or.inr h60)] at hp
      refine r_iconst (q := 64) (v := 1) dX10_bathesIn_63 rfl rfl ?_
      refine r_goto (q := 68) dX10_bathesIn_64 (by decide) ?_
      refine r_putfield (q := 71) dX10_bathesIn_68 f_X10_bathesIn_63 md_g0 rfl rfl (by exact Nat.le_of_ble_eq_true rfl) rfl ?_
      refine WF.cw (md_po (i := 2)) ?_
      refine r_aload_n (q := 72) dX10_bathesIn_71 rfl rfl rfl ?_
      refine r_getfield (q := 75) dX10_bathesIn_72 f_X10_bathesIn_16 md_g0 rfl rfl ?_
      refine r_iconst (q := 76) (v := 0) dX10_bathesIn_75 rfl rfl ?_
      refine r_aload_n (q := 77) dX10_bathesIn_76 rfl rfl rfl ?_
      refine r_getfield (q := 80) dX10_bathesIn_77 f_X10_bathesIn_9 md_g0 rfl rfl ?_
      refine r_iconst (q := 81) (v := 0) dX10_bathesIn_80 rfl rfl ?_
      refine r_sipush (q := 84) (v := 129) dX10_bathesIn_81 (by decide) rfl ?_
      refine r_copyi (q := 87) dX10_bathesIn_84 a_X10_bathesIn_66 md_g3 md_g1 (sa := 0) (da := 0) (na := 129) rfl rfl rfl (by decide) (by decide) (by decide) (Nat.le_of_ble_eq_true rfl) rfl ?_
      refine WF.cw (md_p1 (d2 := cpS c d) (flat_cp.trans flat_cpS.symm) rfl rfl) ?_
      refine r_aload_n (q := 88) dX10_bathesIn_87 rfl rfl rfl ?_
      refine r_getfield (q := 91) dX10_bathesIn_88 f_X10_bathesIn_63 md_g0 rfl rfl ?_
      refine r_if_le (q := 98) (q2 := 94) dX10_bathesIn_91 (by decide) rfl (fun h9 => absurd h9 (show ¬ ((1 : Int32) ≤ 0) by decide)) (fun _ => ?_)
      refine r_iconst (q := 95) (v := 0) dX10_bathesIn_94 rfl rfl ?_
      refine r_goto (q := 99) dX10_bathesIn_95 (by decide) ?_
      refine r_iret dX10_bathesIn_99 rfl (Nat.le_of_ble_eq_true rfl) (Nat.le_of_ble_eq_true rfl) ?_
      exact hp
/-- the best tub of the reference: how much better a tub is -/
def bby (d : xCo) (b : Option Nat) (i : Nat) : Int32 := match b with
  | none => 1
  | some k => if d.2.1 i 0 - d.2.1 k 0 = 0 then d.2.1 k 6 - d.2.1 i 6 else d.2.1 i 0 - d.2.1 k 0
def bbs (d : xCo) (b : Option Nat) (i : Nat) : Option Nat := if 0 ≤ d.2.1 i 1 then b else if d.2.1 i 2 = 0 then (if bby d b i ≤ 0 then b else some i) else b
def bbF (d : xCo) : Nat → Option Nat
  | 0 => none
  | n + 1 => bbs d (bbF d n) n
theorem bbF_lt {d : xCo} : ∀ (n k : Nat), bbF d n = some k → k < n
  | 0, k, h => by cases h
  | n + 1, k, h => by
    have ih := bbF_lt (d := d) n
    unfold bbF bbs at h
    split at h
    · have := ih k h; omega
    · split at h
      · split at h
        · have := ih k h; omega
        · cases h; omega
      · have := ih k h; omega
set_option maxRecDepth 100000 in
set_option maxHeartbeats 4000000 in
theorem lp_X10_best2 {E : xE} {Po : xPo} {w0 w : xW} {m : Nat} {d : xCo} {r : mRs} {o : Nat → Int32} {t : mTx} {i : Nat} {b : Option Nat} (hi : i < 8) (kx : ∀ y : Int32, WF M_X10_bestTub E Po w0 4 [some (.ref m), some (.int (bsI (bbs d b i))), some (.int (nI (i + 1))), some (.int y)] [] (md E w m d r o t) 0 0) (n9 : Nat) : ∀ (z : Nat) (hn9 : 0 < n9), WF M_X10_bestTub E Po w0 60 [some (.ref m), some (.int (bsI b)), some (.int (nI i)), some (.int (bby d b i))] [] (md E w m d r o t) 0 0 := by
  induction n9 with
  | zero => intro z  hn9; exact absurd hn9 (Nat.not_lt_zero _)
  | succ n9 ih =>
    intro z  hn9
    have kz := kx
    unfold bbs at kz
    refine r_aload_n (q := 61) dX10_bestTub_60 rfl rfl rfl ?_
    refine r_iload_n (q := 62) dX10_bestTub_61 rfl rfl rfl ?_
    refine r_iconst (q := 63) (v := 1) dX10_bestTub_62 rfl rfl ?_
    refine r_callV (q := 66) (ci := 12) (As := [_, _]) dX10_bestTub_63 s_X10_bestTub_93 md_g0 rfl rfl rfl (Nat.le_of_ble_eq_true rfl) rfl rfl rfl (Nat.le_of_ble_eq_true rfl) (Nat.le_of_ble_eq_true rfl) ⟨(Nat.le_of_ble_eq_true rfl), (Nat.le_of_ble_eq_true rfl)⟩ rfl ?_
    refine ct_X10_tub1 (k := 1) hi (by decide) ?_
    show WF _ E Po _ _ _ _ _ _ _
    refine r_if_ge (q := 86) (q2 := 69) dX10_bestTub_66 (by decide) rfl (fun h66 => ?_) (fun h66 => ?_)
    · rw [if_pos h66] at kz
      refine r_iload_n (q := 87) dX10_bestTub_86 rfl rfl rfl ?_
      refine r_istore_n (q := 88) dX10_bestTub_87 rfl (Nat.le_of_ble_eq_true rfl) (xone_of rfl) rfl ?_
      refine r_iinc (q := 91) dX10_bestTub_88 rfl (Nat.le_of_ble_eq_true rfl) (xone_of rfl) rfl ?_
      rw [show nI i + Int32.ofInt 1 = nI (i + 1) from nI_1 i]
      refine r_goto (q := 4) dX10_bestTub_91 (by decide) ?_
      exact kz _
    · rw [if_neg h66] at kz
      refine r_aload_n (q := 70) dX10_bestTub_69 rfl rfl rfl ?_
      refine r_iload_n (q := 71) dX10_bestTub_70 rfl rfl rfl ?_
      refine r_iconst (q := 72) (v := 2) dX10_bestTub_71 rfl rfl ?_
      refine r_callV (q := 75) (ci := 12) (As := [_, _]) dX10_bestTub_72 s_X10_bestTub_93 md_g0 rfl rfl rfl (Nat.le_of_ble_eq_true rfl) rfl rfl rfl (Nat.le_of_ble_eq_true rfl) (Nat.le_of_ble_eq_true rfl) ⟨(Nat.le_of_ble_eq_true rfl), (Nat.le_of_ble_eq_true rfl)⟩ rfl ?_
      refine ct_X10_tub1 (k := 2) hi (by decide) ?_
      show WF _ E Po _ _ _ _ _ _ _
      refine r_if_ne (q := 86) (q2 := 78) dX10_bestTub_75 (by decide) rfl (fun h75 => ?_) (fun h75 => ?_)
      · rw [if_neg h75] at kz
        refine r_iload_n (q := 87) dX10_bestTub_86 rfl rfl rfl ?_
        refine r_istore_n (q := 88) dX10_bestTub_87 rfl (Nat.le_of_ble_eq_true rfl) (xone_of rfl) rfl ?_
        refine r_iinc (q := 91) dX10_bestTub_88 rfl (Nat.le_of_ble_eq_true rfl) (xone_of rfl) rfl ?_
        rw [show nI i + Int32.ofInt 1 = nI (i + 1) from nI_1 i]
        refine r_goto (q := 4) dX10_bestTub_91 (by decide) ?_
        exact kz _
      · rw [if_pos h75] at kz
        refine r_iload_n (q := 79) dX10_bestTub_78 rfl rfl rfl ?_
        refine r_if_le (q := 86) (q2 := 82) dX10_bestTub_79 (by decide) rfl (fun h79 => ?_) (fun h79 => ?_)
        · rw [if_pos h79] at kz
          refine r_iload_n (q := 87) dX10_bestTub_86 rfl rfl rfl ?_
          refine r_istore_n (q := 88) dX10_bestTub_87 rfl (Nat.le_of_ble_eq_true rfl) (xone_of rfl) rfl ?_
          refine r_iinc (q := 91) dX10_bestTub_88 rfl (Nat.le_of_ble_eq_true rfl) (xone_of rfl) rfl ?_
          rw [show nI i + Int32.ofInt 1 = nI (i + 1) from nI_1 i]
          refine r_goto (q := 4) dX10_bestTub_91 (by decide) ?_
          exact kz _
        · rw [if_neg h79] at kz
          refine r_iload_n (q := 83) dX10_bestTub_82 rfl rfl rfl ?_
          refine r_goto (q := 87) dX10_bestTub_83 (by decide) ?_
          refine r_istore_n (q := 88) dX10_bestTub_87 rfl (Nat.le_of_ble_eq_true rfl) (xone_of rfl) rfl ?_
          refine r_iinc (q := 91) dX10_bestTub_88 rfl (Nat.le_of_ble_eq_true rfl) (xone_of rfl) rfl ?_
          rw [show nI i + Int32.ofInt 1 = nI (i + 1) from nI_1 i]
          refine r_goto (q := 4) dX10_bestTub_91 (by decide) ?_
          exact kz _
set_option maxRecDepth 100000 in
set_option maxHeartbeats 4000000 in
theorem lp_X10_best1 {E : xE} {Po : xPo} {w0 w : xW} {m : Nat} {d : xCo} {r : mRs} {o : Nat → Int32} {t : mTx} {i k : Nat} {y : Option Value} (hi : i < 8) (hk : k < 8) (kx : ∀ y : Int32, WF M_X10_bestTub E Po w0 4 [some (.ref m), some (.int (bsI (bbs d (some k) i))), some (.int (nI (i + 1))), some (.int y)] [] (md E w m d r o t) 0 0) (n9 : Nat) : ∀ (z : Nat) (hn9 : 0 < n9), WF M_X10_bestTub E Po w0 14 [some (.ref m), some (.int (nI k)), some (.int (nI i)), y] [] (md E w m d r o t) 0 0 := by
  induction n9 with
  | zero => intro z  hn9; exact absurd hn9 (Nat.not_lt_zero _)
  | succ n9 ih =>
    intro z  hn9
    have h60 := lp_X10_best2 (w := w) (m := m) (r := r) (o := o) (t := t) (b := some k) hi kx 1 0 (by decide)
    unfold bby at h60
    dsimp only at h60
    refine r_iload_n (q := 15) dX10_bestTub_14 rfl rfl rfl ?_
    refine r_if_ge (q := 22) (q2 := 18) dX10_bestTub_15 (by decide) rfl (fun _ => ?_) (fun h9 => absurd (nI_pos' (by omega)) h9)
    refine r_aload_n (q := 23) dX10_bestTub_22 rfl rfl rfl ?_
    refine r_iload_n (q := 24) dX10_bestTub_23 rfl rfl rfl ?_
    refine r_iconst (q := 25) (v := 0) dX10_bestTub_24 rfl rfl ?_
    refine r_callV (q := 28) (ci := 12) (As := [_, _]) dX10_bestTub_25 s_X10_bestTub_93 md_g0 rfl rfl rfl (Nat.le_of_ble_eq_true rfl) rfl rfl rfl (Nat.le_of_ble_eq_true rfl) (Nat.le_of_ble_eq_true rfl) ⟨(Nat.le_of_ble_eq_true rfl), (Nat.le_of_ble_eq_true rfl)⟩ rfl ?_
    refine ct_X10_tub1 (k := 0) hi (by decide) ?_
    show WF _ E Po _ _ _ _ _ _ _
    refine r_aload_n (q := 29) dX10_bestTub_28 rfl rfl rfl ?_
    refine r_iload_n (q := 30) dX10_bestTub_29 rfl rfl rfl ?_
    refine r_iconst (q := 31) (v := 0) dX10_bestTub_30 rfl rfl ?_
    refine r_callV (q := 34) (ci := 12) (As := [_, _]) dX10_bestTub_31 s_X10_bestTub_93 md_g0 rfl rfl rfl (Nat.le_of_ble_eq_true rfl) rfl rfl rfl (Nat.le_of_ble_eq_true rfl) (Nat.le_of_ble_eq_true rfl) ⟨(Nat.le_of_ble_eq_true rfl), (Nat.le_of_ble_eq_true rfl)⟩ rfl ?_
    refine ct_X10_tub1 (k := 0) hk (by decide) ?_
    show WF _ E Po _ _ _ _ _ _ _
    refine r_isub (q := 35) dX10_bestTub_34 rfl ?_
    refine r_istore_n (q := 36) dX10_bestTub_35 rfl (Nat.le_of_ble_eq_true rfl) (xone_of rfl) rfl ?_
    refine r_iload_n (q := 37) dX10_bestTub_36 rfl rfl rfl ?_
    refine r_if_eq (q := 44) (q2 := 40) dX10_bestTub_37 (by decide) rfl (fun h37 => ?_) (fun h37 => ?_)
    · rw [if_pos h37] at h60
      refine r_aload_n (q := 45) dX10_bestTub_44 rfl rfl rfl ?_
      refine r_iload_n (q := 46) dX10_bestTub_45 rfl rfl rfl ?_
      refine r_bipush (q := 48) (v := 6) dX10_bestTub_46 (by decide) rfl ?_
      refine r_callV (q := 51) (ci := 12) (As := [_, _]) dX10_bestTub_48 s_X10_bestTub_93 md_g0 rfl rfl rfl (Nat.le_of_ble_eq_true rfl) rfl rfl rfl (Nat.le_of_ble_eq_true rfl) (Nat.le_of_ble_eq_true rfl) ⟨(Nat.le_of_ble_eq_true rfl), (Nat.le_of_ble_eq_true rfl)⟩ rfl ?_
      refine ct_X10_tub1 (k := 6) hk (by decide) ?_
      show WF _ E Po _ _ _ _ _ _ _
      refine r_aload_n (q := 52) dX10_bestTub_51 rfl rfl rfl ?_
      refine r_iload_n (q := 53) dX10_bestTub_52 rfl rfl rfl ?_
      refine r_bipush (q := 55) (v := 6) dX10_bestTub_53 (by decide) rfl ?_
      refine r_callV (q := 58) (ci := 12) (As := [_, _]) dX10_bestTub_55 s_X10_bestTub_93 md_g0 rfl rfl rfl (Nat.le_of_ble_eq_true rfl) rfl rfl rfl (Nat.le_of_ble_eq_true rfl) (Nat.le_of_ble_eq_true rfl) ⟨(Nat.le_of_ble_eq_true rfl), (Nat.le_of_ble_eq_true rfl)⟩ rfl ?_
      refine ct_X10_tub1 (k := 6) hi (by decide) ?_
      show WF _ E Po _ _ _ _ _ _ _
      refine r_isub (q := 59) dX10_bestTub_58 rfl ?_
      refine r_istore_n (q := 60) dX10_bestTub_59 rfl (Nat.le_of_ble_eq_true rfl) (xone_of rfl) rfl ?_
      exact h60
    · rw [if_neg h37] at h60
      refine r_iload_n (q := 41) dX10_bestTub_40 rfl rfl rfl ?_
      refine r_goto (q := 59) dX10_bestTub_41 (by decide) ?_
      refine r_istore_n (q := 60) dX10_bestTub_59 rfl (Nat.le_of_ble_eq_true rfl) (xone_of rfl) rfl ?_
      exact h60
set_option maxRecDepth 100000 in
set_option maxHeartbeats 4000000 in
theorem lp_X10_best {E : xE} {Po : xPo} {w0 w : xW} {m : Nat} {d : xCo} {r : mRs} {o : Nat → Int32} {t : mTx} {N : Nat} (hN : N ≤ 8) (eN : d.1 1 = nI N) (hp : if 0 ≤ bsI (bbF d N) then Po (.inl (some (.int (bsI (bbF d N))))) (md E w m d r (upd o 2 0) t) else Po (.inl (some (.int (0)))) (md E w m d r (upd o 2 1) t)) (n9 : Nat) : ∀ (i : Nat) (b : Option Nat) (y : Option Value) (hi : i ≤ N) (hb : b = bbF d i) (hn9 : N - i < n9), WF M_X10_bestTub E Po w0 4 [some (.ref m), some (.int (bsI b)), some (.int (nI i)), y] [] (md E w m d r o t) 0 0 := by
  induction n9 with
  | zero => intro i b y hi hb hn9; exact absurd hn9 (Nat.not_lt_zero _)
  | succ n9 ih =>
    intro i b y hi hb hn9
    refine r_iload_n (q := 5) dX10_bestTub_4 rfl rfl rfl ?_
    refine r_aload_n (q := 6) dX10_bestTub_5 rfl rfl rfl ?_
    refine r_getfield (q := 9) dX10_bestTub_6 f_X10_bestTub_9 md_g0 rfl rfl ?_
    refine r_iconst (q := 10) (v := 1) dX10_bestTub_9 rfl rfl ?_
    refine r_ldS (q := 11) (k := 1) dX10_bestTub_10 (by decide) rfl ?_
    rw [eN]
    refine r_icmp_ge (q := 94) (q2 := 14) dX10_bestTub_11 (by decide) rfl (fun h11 => ?_) (fun h11 => ?_)
    · obtain rfl : i = N := by have := (nI_leI (by omega) (by omega)).mp h11; omega
      subst hb
      refine r_aload_n (q := 95) dX10_bestTub_94 rfl rfl rfl ?_
      refine r_iload_n (q := 96) dX10_bestTub_95 rfl rfl rfl ?_
      refine r_if_ge (q := 103) (q2 := 99) dX10_bestTub_96 (by decide) rfl (fun h96 => ?_) (fun h96 => ?_)
      · rw [if_pos h96] at hp
        refine r_iconst (q := 104) (v := 0) dX10_bestTub_103 rfl rfl ?_
        refine r_putfield (q := 107) dX10_bestTub_104 f_X10_bestTub_63 md_g0 rfl rfl (by exact Nat.le_of_ble_eq_true rfl) rfl ?_
        refine WF.cw (md_po (i := 2)) ?_
        refine r_aload_n (q := 108) dX10_bestTub_107 rfl rfl rfl ?_
        refine r_getfield (q := 111) dX10_bestTub_108 f_X10_bestTub_63 md_g0 rfl rfl ?_
        refine r_if_le (q := 118) (q2 := 114) dX10_bestTub_111 (by decide) rfl (fun _ => ?_) (fun h9 => absurd (show (0 : Int32) ≤ 0 by decide) h9)
        refine r_iload_n (q := 119) dX10_bestTub_118 rfl rfl rfl ?_
        refine r_iret dX10_bestTub_119 rfl (Nat.le_of_ble_eq_true rfl) (Nat.le_of_ble_eq_true rfl) ?_
        exact hp
      · rw [if_neg h96] at hp
        refine r_iconst (q := 100) (v := 1) dX10_bestTub_99 rfl rfl ?_
        refine r_goto (q := 104) dX10_bestTub_100 (by decide) ?_
        refine r_putfield (q := 107) dX10_bestTub_104 f_X10_bestTub_63 md_g0 rfl rfl (by exact Nat.le_of_ble_eq_true rfl) rfl ?_
        refine WF.cw (md_po (i := 2)) ?_
        refine r_aload_n (q := 108) dX10_bestTub_107 rfl rfl rfl ?_
        refine r_getfield (q := 111) dX10_bestTub_108 f_X10_bestTub_63 md_g0 rfl rfl ?_
        refine r_if_le (q := 118) (q2 := 114) dX10_bestTub_111 (by decide) rfl (fun h9 => absurd h9 (show ¬ ((1 : Int32) ≤ 0) by decide)) (fun _ => ?_)
        refine r_iconst (q := 115) (v := 0) dX10_bestTub_114 rfl rfl ?_
        refine r_goto (q := 119) dX10_bestTub_115 (by decide) ?_
        refine r_iret dX10_bestTub_119 rfl (Nat.le_of_ble_eq_true rfl) (Nat.le_of_ble_eq_true rfl) ?_
        exact hp
    · have hiN : i < N := by
        have : ¬ N ≤ i := fun q => h11 ((nI_leI (by omega) (by omega)).mpr q)
        omega
      have hi8 : i < 8 := by omega
      have kz : ∀ y : Int32, WF M_X10_bestTub E Po w0 4 [some (.ref m), some (.int (bsI (bbs d b i))), some (.int (nI (i + 1))), some (.int y)] [] (md E w m d r o t) 0 0 := fun y => ih (i + 1) _ _ (by omega) (by rw [hb]; rfl) (by omega)
      cases b with
      | none =>
        refine r_iload_n (q := 15) dX10_bestTub_14 rfl rfl rfl ?_
        refine r_if_ge (q := 22) (q2 := 18) dX10_bestTub_15 (by decide) rfl (fun h9 => absurd h9 (by decide)) (fun _ => ?_)
        refine r_iconst (q := 19) (v := 1) dX10_bestTub_18 rfl rfl ?_
        refine r_goto (q := 35) dX10_bestTub_19 (by decide) ?_
        refine r_istore_n (q := 36) dX10_bestTub_35 rfl (Nat.le_of_ble_eq_true rfl) (xone_of rfl) rfl ?_
        refine r_iload_n (q := 37) dX10_bestTub_36 rfl rfl rfl ?_
        refine r_if_eq (q := 44) (q2 := 40) dX10_bestTub_37 (by decide) rfl (fun h9 => absurd h9 (by decide)) (fun _ => ?_)
        refine r_iload_n (q := 41) dX10_bestTub_40 rfl rfl rfl ?_
        refine r_goto (q := 59) dX10_bestTub_41 (by decide) ?_
        refine r_istore_n (q := 60) dX10_bestTub_59 rfl (Nat.le_of_ble_eq_true rfl) (xone_of rfl) rfl ?_
        exact lp_X10_best2 (b := none) hi8 kz 1 0 (by decide)
      | some k =>
        have hk8 : k < 8 := by
          have := bbF_lt i k hb.symm
          omega
        exact lp_X10_best1 hi8 hk8 kz 1 0 (by decide)
      
set_option maxRecDepth 100000 in
set_option maxHeartbeats 4000000 in
theorem ct_X10_bestTub {E : xE} {Po : xPo} {w : xW} {m : Nat} {d : xCo} {r : mRs} {o : Nat → Int32} {t : mTx} {N : Nat} (hN : N ≤ 8) (eN : d.1 1 = nI N) (hp : if 0 ≤ bsI (bbF d N) then Po (.inl (some (.int (bsI (bbF d N))))) (md E w m d r (upd o 2 0) t) else Po (.inl (some (.int (0)))) (md E w m d r (upd o 2 1) t)) : Ct M_X10_bestTub E [.ref m] (md E w m d r o t) Po := by
  refine Ct.of (ws2 := xAll) (L := [some (.ref m), none, none, none]) (by decide +kernel) rfl rfl (List.forall_mem_cons.mpr ⟨rfl, fun _ h => absurd h List.not_mem_nil⟩) (Nat.le_of_ble_eq_true rfl) rfl ?_
  refine r_iconst (q := 1) (v := (-1)) dX10_bestTub_0 rfl rfl ?_
  refine r_istore_n (q := 2) dX10_bestTub_1 rfl (Nat.le_of_ble_eq_true rfl) (xone_of rfl) rfl ?_
  refine r_iconst (q := 3) (v := 0) dX10_bestTub_2 rfl rfl ?_
  refine r_istore_n (q := 4) dX10_bestTub_3 rfl (Nat.le_of_ble_eq_true rfl) (xone_of rfl) rfl ?_
  exact lp_X10_best hN eN hp (N + 1) 0 none _ (Nat.zero_le _) rfl (by omega)
