/-! ===== 45.mmean: means and shares of the reference (rows laid by wip/whole/gen/make45.py) ===== -/
def wmS (d : xCo) (k : Nat) : Int32 := if d.2.1 k 3 ≤ 0 then 0 else d.2.1 k 4
def wcS (d : xCo) (k : Nat) : Int32 := if d.2.1 k 3 ≤ 0 then 0 else 1
theorem sum_s {f : Nat → Int32} {n : Nat} {x : Int32} (h : f n = x) : sumS f n + x = sumS f (n + 1) := by rw [sumS, h]
set_option maxRecDepth 100000 in
set_option maxHeartbeats 4000000 in
theorem lp_X10_mean {E : xE} {Po : xPo} {w0 w : xW} {m : Nat} {d : xCo} {r : mRs} {o : Nat → Int32} {t : mTx} {N : Nat} (hN : N ≤ 8) (eN : d.1 1 = nI N) (hne : ¬ sumS (wcS d) N = 0 → vf_n64 (FP.ddiv (FP.i2d (sumS (wmS d) N)) (FP.i2d (sumS (wcS d) N)))) (hp : if sumS (wcS d) N = 0 then Po (.inl (some (.double 0))) (md E w m d r (upd o 2 1) t) else Po (.inl (some (.double (FP.ddiv (FP.i2d (sumS (wmS d) N)) (FP.i2d (sumS (wcS d) N)))))) (md E w m d r (upd o 2 0) t)) (n9 : Nat) : ∀ (i : Nat) (o4 : Option Value) (hi : i ≤ N) (hn9 : N - i < n9), WF M_X10_meanWarmth E Po w0 6 [some (.ref m), some (.int (sumS (wmS d) i)), some (.int (sumS (wcS d) i)), some (.int (nI i)), o4] [] (md E w m d r o t) 0 0 := by
  induction n9 with
  | zero => intro i o4 hi hn9; exact absurd hn9 (Nat.not_lt_zero _)
  | succ n9 ih =>
    intro i o4 hi hn9
    refine r_iload_n (q := 7) dX10_meanWarmth_6 rfl rfl rfl ?_
    refine r_aload_n (q := 8) dX10_meanWarmth_7 rfl rfl rfl ?_
    refine r_getfield (q := 11) dX10_meanWarmth_8 f_X10_meanWarmth_9 md_g0 rfl rfl ?_
    refine r_iconst (q := 12) (v := 1) dX10_meanWarmth_11 rfl rfl ?_
    refine r_ldS (q := 13) (k := 1) dX10_meanWarmth_12 (by decide) rfl ?_
    rw [eN]
    refine r_icmp_ge (q := 69) (q2 := 16) dX10_meanWarmth_13 (by decide) rfl (fun h13 => ?_) (fun h13 => ?_)
    · obtain rfl : i = N := by have := (nI_leI (by omega) (by omega)).mp h13; omega
      refine r_aload_n (q := 70) dX10_meanWarmth_69 rfl rfl rfl ?_
      refine r_iload_n (q := 71) dX10_meanWarmth_70 rfl rfl rfl ?_
      refine r_if_ne (q := 78) (q2 := 74) dX10_meanWarmth_71 (by decide) rfl (fun h71 => ?_) (fun h71 => ?_)
      · rw [if_neg h71] at hp
        refine r_iconst (q := 79) (v := 0) dX10_meanWarmth_78 rfl rfl ?_
        refine r_putfield (q := 82) dX10_meanWarmth_79 f_X10_meanWarmth_63 md_g0 rfl rfl (by exact Nat.le_of_ble_eq_true rfl) rfl ?_
        refine WF.cw (md_po (i := 2)) ?_
        refine r_aload_n (q := 83) dX10_meanWarmth_82 rfl rfl rfl ?_
        refine r_getfield (q := 86) dX10_meanWarmth_83 f_X10_meanWarmth_63 md_g0 rfl rfl ?_
        refine r_if_le (q := 93) (q2 := 89) dX10_meanWarmth_86 (by decide) rfl (fun _ => ?_) (fun h9 => absurd (show (0 : Int32) ≤ 0 by decide) h9)
        refine r_iload_n (q := 94) dX10_meanWarmth_93 rfl rfl rfl ?_
        refine r_i2d (q := 95) dX10_meanWarmth_94 rfl ?_
        refine r_iload_n (q := 96) dX10_meanWarmth_95 rfl rfl rfl ?_
        refine r_i2d (q := 97) dX10_meanWarmth_96 rfl ?_
        refine r_ddiv (q := 98) dX10_meanWarmth_97 (hne h71) rfl ?_
        refine r_dret dX10_meanWarmth_98 rfl (Nat.le_of_ble_eq_true rfl) (Nat.le_of_ble_eq_true rfl) ?_
        exact hp
      · rw [if_pos h71] at hp
        refine r_iconst (q := 75) (v := 1) dX10_meanWarmth_74 rfl rfl ?_
        refine r_goto (q := 79) dX10_meanWarmth_75 (by decide) ?_
        refine r_putfield (q := 82) dX10_meanWarmth_79 f_X10_meanWarmth_63 md_g0 rfl rfl (by exact Nat.le_of_ble_eq_true rfl) rfl ?_
        refine WF.cw (md_po (i := 2)) ?_
        refine r_aload_n (q := 83) dX10_meanWarmth_82 rfl rfl rfl ?_
        refine r_getfield (q := 86) dX10_meanWarmth_83 f_X10_meanWarmth_63 md_g0 rfl rfl ?_
        refine r_if_le (q := 93) (q2 := 89) dX10_meanWarmth_86 (by decide) rfl (fun h9 => absurd h9 (show ¬ ((1 : Int32) ≤ 0) by decide)) (fun _ => ?_)
        refine r_dconst0 (q := 90) dX10_meanWarmth_89 rfl ?_
        refine r_goto (q := 98) dX10_meanWarmth_90 (by decide) ?_
        refine r_dret dX10_meanWarmth_98 rfl (Nat.le_of_ble_eq_true rfl) (Nat.le_of_ble_eq_true rfl) ?_
        exact hp
    · have hiN : i < N := by
        have : ¬ N ≤ i := fun q => h13 ((nI_leI (by omega) (by omega)).mpr q)
        omega
      have hi8 : i < 8 := by omega
      refine r_aload_n (q := 17) dX10_meanWarmth_16 rfl rfl rfl ?_
      refine r_iload_n (q := 18) dX10_meanWarmth_17 rfl rfl rfl ?_
      refine r_iconst (q := 19) (v := 3) dX10_meanWarmth_18 rfl rfl ?_
      refine r_callV (q := 22) (ci := 12) (As := [_, _]) dX10_meanWarmth_19 s_X10_meanWarmth_93 md_g0 rfl rfl rfl (Nat.le_of_ble_eq_true rfl) rfl rfl rfl (Nat.le_of_ble_eq_true rfl) (Nat.le_of_ble_eq_true rfl) ⟨(Nat.le_of_ble_eq_true rfl), (Nat.le_of_ble_eq_true rfl)⟩ rfl ?_
      refine ct_X10_tub1 (k := 3) hi8 (by decide) ?_
      show WF _ E Po _ _ _ _ _ _ _
      refine r_if_le (q := 29) (q2 := 25) dX10_meanWarmth_22 (by decide) rfl (fun h22 => ?_) (fun h22 => ?_)
      · have hm : wmS d i = 0 := if_pos h22
        have hc : wcS d i = 0 := if_pos h22
        refine r_iconst (q := 30) (v := 0) dX10_meanWarmth_29 rfl rfl ?_
        refine r_istore (q := 32) dX10_meanWarmth_30 (Nat.le_of_ble_eq_true rfl) (xone_of rfl) rfl ?_
        refine r_iload_n (q := 33) dX10_meanWarmth_32 rfl rfl rfl ?_
        refine r_iload (q := 35) dX10_meanWarmth_33 rfl rfl ?_
        refine r_if_eq (q := 47) (q2 := 38) dX10_meanWarmth_35 (by decide) rfl (fun _ => ?_) (fun h9 => absurd rfl h9)
        refine r_iconst (q := 48) (v := 0) dX10_meanWarmth_47 rfl rfl ?_
        refine r_iadd (q := 49) dX10_meanWarmth_48 rfl ?_
        rw [sum_s hm]
        refine r_istore_n (q := 50) dX10_meanWarmth_49 rfl (Nat.le_of_ble_eq_true rfl) (xone_of rfl) rfl ?_
        refine r_iload_n (q := 51) dX10_meanWarmth_50 rfl rfl rfl ?_
        refine r_iload (q := 53) dX10_meanWarmth_51 rfl rfl ?_
        refine r_if_eq (q := 60) (q2 := 56) dX10_meanWarmth_53 (by decide) rfl (fun _ => ?_) (fun h9 => absurd rfl h9)
        refine r_iconst (q := 61) (v := 0) dX10_meanWarmth_60 rfl rfl ?_
        refine r_iadd (q := 62) dX10_meanWarmth_61 rfl ?_
        rw [sum_s hc]
        refine r_istore_n (q := 63) dX10_meanWarmth_62 rfl (Nat.le_of_ble_eq_true rfl) (xone_of rfl) rfl ?_
        refine r_iinc (q := 66) dX10_meanWarmth_63 rfl (Nat.le_of_ble_eq_true rfl) (xone_of rfl) rfl ?_
        rw [show nI i + Int32.ofInt 1 = nI (i + 1) from nI_1 i]
        refine r_goto (q := 6) dX10_meanWarmth_66 (by decide) ?_
        exact ih (i + 1) _ (by omega) (by omega)
      · have hm : wmS d i = d.2.1 i 4 := if_neg h22
        have hc : wcS d i = 1 := if_neg h22
        refine r_iconst (q := 26) (v := 1) dX10_meanWarmth_25 rfl rfl ?_
        refine r_goto (q := 30) dX10_meanWarmth_26 (by decide) ?_
        refine r_istore (q := 32) dX10_meanWarmth_30 (Nat.le_of_ble_eq_true rfl) (xone_of rfl) rfl ?_
        refine r_iload_n (q := 33) dX10_meanWarmth_32 rfl rfl rfl ?_
        refine r_iload (q := 35) dX10_meanWarmth_33 rfl rfl ?_
        refine r_if_eq (q := 47) (q2 := 38) dX10_meanWarmth_35 (by decide) rfl (fun h9 => absurd h9 (by decide)) (fun _ => ?_)
        refine r_aload_n (q := 39) dX10_meanWarmth_38 rfl rfl rfl ?_
        refine r_iload_n (q := 40) dX10_meanWarmth_39 rfl rfl rfl ?_
        refine r_iconst (q := 41) (v := 4) dX10_meanWarmth_40 rfl rfl ?_
        refine r_callV (q := 44) (ci := 12) (As := [_, _]) dX10_meanWarmth_41 s_X10_meanWarmth_93 md_g0 rfl rfl rfl (Nat.le_of_ble_eq_true rfl) rfl rfl rfl (Nat.le_of_ble_eq_true rfl) (Nat.le_of_ble_eq_true rfl) ⟨(Nat.le_of_ble_eq_true rfl), (Nat.le_of_ble_eq_true rfl)⟩ rfl ?_
        refine ct_X10_tub1 (k := 4) hi8 (by decide) ?_
        show WF _ E Po _ _ _ _ _ _ _
        refine r_goto (q := 48) dX10_meanWarmth_44 (by decide) ?_
        refine r_iadd (q := 49) dX10_meanWarmth_48 rfl ?_
        rw [sum_s hm]
        refine r_istore_n (q := 50) dX10_meanWarmth_49 rfl (Nat.le_of_ble_eq_true rfl) (xone_of rfl) rfl ?_
        refine r_iload_n (q := 51) dX10_meanWarmth_50 rfl rfl rfl ?_
        refine r_iload (q := 53) dX10_meanWarmth_51 rfl rfl ?_
        refine r_if_eq (q := 60) (q2 := 56) dX10_meanWarmth_53 (by decide) rfl (fun h9 => absurd h9 (by decide)) (fun _ => ?_)
        refine r_iconst (q := 57) (v := 1) dX10_meanWarmth_56 rfl rfl ?_
        refine r_goto (q := 61) dX10_meanWarmth_57 (by decide) ?_
        refine r_iadd (q := 62) dX10_meanWarmth_61 rfl ?_
        rw [sum_s hc]
        refine r_istore_n (q := 63) dX10_meanWarmth_62 rfl (Nat.le_of_ble_eq_true rfl) (xone_of rfl) rfl ?_
        refine r_iinc (q := 66) dX10_meanWarmth_63 rfl (Nat.le_of_ble_eq_true rfl) (xone_of rfl) rfl ?_
        rw [show nI i + Int32.ofInt 1 = nI (i + 1) from nI_1 i]
        refine r_goto (q := 6) dX10_meanWarmth_66 (by decide) ?_
        exact ih (i + 1) _ (by omega) (by omega)
set_option maxRecDepth 100000 in
set_option maxHeartbeats 4000000 in
theorem ct_X10_meanWarmth {E : xE} {Po : xPo} {w : xW} {m : Nat} {d : xCo} {r : mRs} {o : Nat → Int32} {t : mTx} {N : Nat} (hN : N ≤ 8) (eN : d.1 1 = nI N) (hne : ¬ sumS (wcS d) N = 0 → vf_n64 (FP.ddiv (FP.i2d (sumS (wmS d) N)) (FP.i2d (sumS (wcS d) N)))) (hp : if sumS (wcS d) N = 0 then Po (.inl (some (.double 0))) (md E w m d r (upd o 2 1) t) else Po (.inl (some (.double (FP.ddiv (FP.i2d (sumS (wmS d) N)) (FP.i2d (sumS (wcS d) N)))))) (md E w m d r (upd o 2 0) t)) : Ct M_X10_meanWarmth E [.ref m] (md E w m d r o t) Po := by
  refine Ct.of (ws2 := xAll) (L := [some (.ref m), none, none, none, none]) (by decide +kernel) rfl rfl (List.forall_mem_cons.mpr ⟨rfl, fun _ h => absurd h List.not_mem_nil⟩) (Nat.le_of_ble_eq_true rfl) rfl ?_
  refine r_iconst (q := 1) (v := 0) dX10_meanWarmth_0 rfl rfl ?_
  refine r_istore_n (q := 2) dX10_meanWarmth_1 rfl (Nat.le_of_ble_eq_true rfl) (xone_of rfl) rfl ?_
  refine r_iconst (q := 3) (v := 0) dX10_meanWarmth_2 rfl rfl ?_
  refine r_istore_n (q := 4) dX10_meanWarmth_3 rfl (Nat.le_of_ble_eq_true rfl) (xone_of rfl) rfl ?_
  refine r_iconst (q := 5) (v := 0) dX10_meanWarmth_4 rfl rfl ?_
  refine r_istore_n (q := 6) dX10_meanWarmth_5 rfl (Nat.le_of_ble_eq_true rfl) (xone_of rfl) rfl ?_
  exact lp_X10_mean hN eN hne hp (N + 1) 0 _ (Nat.zero_le _) (by omega)
set_option maxRecDepth 100000 in
set_option maxHeartbeats 4000000 in
theorem ct_X10_bathedShare {E : xE} {Po : xPo} {w : xW} {m : Nat} {d : xCo} {r : mRs} {o : Nat → Int32} {t : mTx}  (hne : ¬ d.1 8 = 0 → vf_n32 (FP.fdiv (FP.i2f (d.1 9)) (FP.i2f (d.1 8)))) (hp : if d.1 8 = 0 then Po (.inl (some (.float 0))) (md E w m d r (upd o 2 1) t) else Po (.inl (some (.float (FP.fdiv (FP.i2f (d.1 9)) (FP.i2f (d.1 8)))))) (md E w m d r (upd o 2 0) t)) : Ct M_X10_bathedShare E [.ref m] (md E w m d r o t) Po := by
  refine Ct.of (ws2 := xAll) (L := [some (.ref m)]) (by decide +kernel) rfl rfl (List.forall_mem_cons.mpr ⟨rfl, fun _ h => absurd h List.not_mem_nil⟩) (Nat.le_of_ble_eq_true rfl) rfl ?_
  refine r_aload_n (q := 1) dX10_bathedShare_0 rfl rfl rfl ?_
  refine r_aload_n (q := 2) dX10_bathedShare_1 rfl rfl rfl ?_
  refine r_getfield (q := 5) dX10_bathedShare_2 f_X10_bathedShare_9 md_g0 rfl rfl ?_
  refine r_bipush (q := 7) (v := 8) dX10_bathedShare_5 (by decide) rfl ?_
  refine r_ldS (q := 8) (k := 8) dX10_bathedShare_7 (by decide) rfl ?_
  refine r_if_ne (q := 15) (q2 := 11) dX10_bathedShare_8 (by decide) rfl (fun h8 => ?_) (fun h8 => ?_)
  · rw [if_neg h8] at hp
    refine r_iconst (q := 16) (v := 0) dX10_bathedShare_15 rfl rfl ?_
    refine r_putfield (q := 19) dX10_bathedShare_16 f_X10_bathedShare_63 md_g0 rfl rfl (by exact Nat.le_of_ble_eq_true rfl) rfl ?_
    refine WF.cw (md_po (i := 2)) ?_
    refine r_aload_n (q := 20) dX10_bathedShare_19 rfl rfl rfl ?_
    refine r_getfield (q := 23) dX10_bathedShare_20 f_X10_bathedShare_63 md_g0 rfl rfl ?_
    refine r_if_le (q := 30) (q2 := 26) dX10_bathedShare_23 (by decide) rfl (fun _ => ?_) (fun h9 => absurd (show (0 : Int32) ≤ 0 by decide) h9)
    refine r_aload_n (q := 31) dX10_bathedShare_30 rfl rfl rfl ?_
    refine r_getfield (q := 34) dX10_bathedShare_31 f_X10_bathedShare_9 md_g0 rfl rfl ?_
    refine r_bipush (q := 36) (v := 9) dX10_bathedShare_34 (by decide) rfl ?_
    refine r_ldS (q := 37) (k := 9) dX10_bathedShare_36 (by decide) rfl ?_
    refine r_i2f (q := 38) dX10_bathedShare_37 rfl ?_
    refine r_aload_n (q := 39) dX10_bathedShare_38 rfl rfl rfl ?_
    refine r_getfield (q := 42) dX10_bathedShare_39 f_X10_bathedShare_9 md_g0 rfl rfl ?_
    refine r_bipush (q := 44) (v := 8) dX10_bathedShare_42 (by decide) rfl ?_
    refine r_ldS (q := 45) (k := 8) dX10_bathedShare_44 (by decide) rfl ?_
    refine r_i2f (q := 46) dX10_bathedShare_45 rfl ?_
    refine r_fdiv (q := 47) dX10_bathedShare_46 (hne h8) rfl ?_
    refine r_fret dX10_bathedShare_47 rfl (Nat.le_of_ble_eq_true rfl) (Nat.le_of_ble_eq_true rfl) ?_
    exact hp
  · rw [if_pos h8] at hp
    refine r_iconst (q := 12) (v := 1) dX10_bathedShare_11 rfl rfl ?_
    refine r_goto (q := 16) dX10_bathedShare_12 (by decide) ?_
    refine r_putfield (q := 19) dX10_bathedShare_16 f_X10_bathedShare_63 md_g0 rfl rfl (by exact Nat.le_of_ble_eq_true rfl) rfl ?_
    refine WF.cw (md_po (i := 2)) ?_
    refine r_aload_n (q := 20) dX10_bathedShare_19 rfl rfl rfl ?_
    refine r_getfield (q := 23) dX10_bathedShare_20 f_X10_bathedShare_63 md_g0 rfl rfl ?_
    refine r_if_le (q := 30) (q2 := 26) dX10_bathedShare_23 (by decide) rfl (fun h9 => absurd h9 (show ¬ ((1 : Int32) ≤ 0) by decide)) (fun _ => ?_)
    refine r_fconst0 (q := 27) dX10_bathedShare_26 rfl ?_
    refine r_goto (q := 47) dX10_bathedShare_27 (by decide) ?_
    refine r_fret dX10_bathedShare_47 rfl (Nat.le_of_ble_eq_true rfl) (Nat.le_of_ble_eq_true rfl) ?_
    exact hp
