/-! ===== 37.mcalls: the reference's calls that change it (rows laid by wip/whole/gen/make37.py) ===== -/
theorem upd_upd {o : Nat → Int32} {i : Nat} {a b : Int32} : upd (upd o i a) i b = upd o i b := by
  funext k
  by_cases e : k = i
  · subst e; rw [upd_s, upd_s]
  · rw [upd_o e, upd_o e, upd_o e]
theorem cpS_id {d : xCo} : cpS d d = d := by
  refine Prod.ext ?_ (Prod.ext ?_ (Prod.ext ?_ ?_))
  · funext k; exact ite_self _
  · funext k; exact ite_self _
  · funext k; exact ite_self _
  · funext k; exact ite_self _
theorem cpS_R {d : xCo} {a b : Int32} : cpS (cR d a b) d = cR d a b := by
  refine Prod.ext ?_ (Prod.ext ?_ (Prod.ext ?_ ?_))
  · funext k
    show (if k < 10 then d.1 k else (cR d a b).1 k) = (cR d a b).1 k
    by_cases h : k < 10
    · rw [if_pos h]
      show d.1 k = upd (upd d.1 10 a) 11 b k
      rw [upd_o (by omega), upd_o (by omega)]
    · rw [if_neg h]
  · funext k; exact ite_self _
  · funext k; exact ite_self _
  · funext k; exact ite_self _
def pPush (n : Nat) (p : Nat → xCo) (b : xCo) : Nat → xCo := if n = 8 then pU (pSh p) 7 b else pU p n b
def cnt1 (n : Nat) : Nat := if n = 8 then 8 else n + 1
theorem dO_n {o : Nat → Int32} {a a3 a1 : Int32} : dO o a a3 a1 1 = o 1 := by
  unfold dO
  split
  · rfl
  · split
    · rfl
    · split <;> rfl
/-- a change ended: the answer and what is left -/
def eP (Po : xPo) (E : xE) (w : xW) (m : Nat) (o : Nat → Int32) (t : mTx) (r : mRs) (d : xCo) (n : Nat) (p : mOc) (a3 a1 : Int32) : Prop :=
  if (dO (upd o 2 0) p.1 a3 a1) 2 ≤ 0 then Po (.inl (some (.int p.2.1))) (md E w m p.2.2 (d, r.2.1, r.2.2.1, pPush n r.2.2.2 d) (upd (dO (upd o 2 0) p.1 a3 a1) 1 (nI (cnt1 n))) t)
  else Po (.inl (some (.int 0))) (md E w m (cpS p.2.2 d) (d, r.2) (dO (upd o 2 0) p.1 a3 a1) t)
section EP
variable {Po : xPo} {E : xE} {w : xW} {m : Nat} {o : Nat → Int32} {t : mTx} {r : mRs} {d d2 : xCo} {n : Nat} {x a3 a1 : Int32}
theorem eP_0 (h : eP Po E w m o t r d n (0, x, d2) a3 a1) : Po (.inl (some (.int x))) (md E w m d2 (d, r.2.1, r.2.2.1, pPush n r.2.2.2 d) (upd (upd o 2 0) 1 (nI (cnt1 n))) t) := by
  unfold eP at h
  rw [dO_0] at h
  rwa [if_pos (show upd o 2 0 2 ≤ 0 from (by decide : (0 : Int32) ≤ 0))] at h
theorem eP_1 (ha : ¬ a1 ≤ 0) (h : eP Po E w m o t r d n (-1, 0, d2) a3 a1) : Po (.inl (some (.int 0))) (md E w m (cpS d2 d) (d, r.2) (upd (upd (upd o 2 0) 2 a1) 5 1) t) := by
  unfold eP at h
  rw [dO_1] at h
  rwa [if_neg (show ¬ upd (upd (upd o 2 0) 2 a1) 5 1 2 ≤ 0 from ha)] at h
theorem eP_2 (h : eP Po E w m o t r d n (-2, 0, d2) a3 a1) : Po (.inl (some (.int 0))) (md E w m (cpS d2 d) (d, r.2) (upd (upd o 2 0) 2 1) t) := by
  unfold eP at h
  rw [dO_2] at h
  rwa [if_neg (show ¬ upd (upd o 2 0) 2 1 2 ≤ 0 from (by decide : ¬ (1 : Int32) ≤ 0))] at h
theorem eP_3 (ha : ¬ a3 ≤ 0) (h : eP Po E w m o t r d n (-3, 0, d2) a3 a1) : Po (.inl (some (.int 0))) (md E w m (cpS d2 d) (d, r.2) (upd (upd o 2 0) 2 a3) t) := by
  unfold eP at h
  rw [dO_3] at h
  rwa [if_neg (show ¬ upd (upd o 2 0) 2 a3 2 ≤ 0 from ha)] at h
end EP
set_option maxRecDepth 100000 in
set_option maxHeartbeats 4000000 in
theorem ct_X10_ends {E : xE} {Po : xPo} {w : xW} {m : Nat} {d : xCo} {r : mRs} {o : Nat → Int32} {t : mTx} {x : Int32} {n : Nat} (hn : n ≤ 8) (ho : o 1 = nI n) (hp : if o 2 ≤ 0 then Po (.inl (some (.int x))) (md E w m d (r.1, r.2.1, r.2.2.1, pPush n r.2.2.2 r.1) (upd o 1 (nI (cnt1 n))) t) else Po (.inl (some (.int 0))) (md E w m (cpS d r.1) r o t)) : Ct M_X10_ends E [.ref m, .int x] (md E w m d r o t) Po := by
  refine Ct.of (ws2 := xAll) (L := [some (.ref m), some (.int x)]) (by decide +kernel) rfl rfl (List.forall_mem_cons.mpr ⟨rfl, List.forall_mem_cons.mpr ⟨rfl, fun _ h => absurd h List.not_mem_nil⟩⟩) (Nat.le_of_ble_eq_true rfl) rfl ?_
  refine r_aload_n (q := 1) dX10_ends_0 rfl rfl rfl ?_
  refine r_getfield (q := 4) dX10_ends_1 f_X10_ends_63 md_g0 rfl rfl ?_
  refine r_if_le (q := 25) (q2 := 7) dX10_ends_4 (by decide) rfl (fun h4 => ?_) (fun h4 => ?_)
  · rw [if_pos h4] at hp
    refine r_aload_n (q := 26) dX10_ends_25 rfl rfl rfl ?_
    refine r_getfield (q := 29) dX10_ends_26 f_X10_ends_72 md_g0 rfl rfl ?_
    refine r_bipush (q := 31) (v := 8) dX10_ends_29 (by decide) rfl ?_
    refine r_icmp_ne (q := 62) (q2 := 34) dX10_ends_31 (by decide) rfl (fun h31 => ?_) (fun h31 => ?_)
    · have hn8 : ¬ n = 8 := fun z => h31 (by rw [ho, z]; rfl)
      unfold pPush cnt1 at hp
      rw [if_neg hn8, if_neg hn8] at hp
      refine r_aload_n (q := 63) dX10_ends_62 rfl rfl rfl ?_
      refine r_getfield (q := 66) dX10_ends_63 f_X10_ends_13 md_g0 rfl rfl ?_
      refine r_iconst (q := 67) (v := 0) dX10_ends_66 rfl rfl ?_
      refine r_aload_n (q := 68) dX10_ends_67 rfl rfl rfl ?_
      refine r_getfield (q := 71) dX10_ends_68 f_X10_ends_22 md_g0 rfl rfl ?_
      refine r_sipush (q := 74) (v := 129) dX10_ends_71 (by decide) rfl ?_
      refine r_aload_n (q := 75) dX10_ends_74 rfl rfl rfl ?_
      refine r_getfield (q := 78) dX10_ends_75 f_X10_ends_72 md_g0 rfl rfl ?_
      refine r_imul (q := 79) dX10_ends_78 rfl ?_
      refine r_sipush (q := 82) (v := 129) dX10_ends_79 (by decide) rfl ?_
      refine r_copyi (q := 85) dX10_ends_82 a_X10_ends_66 md_g2 md_g5 (sa := 0) (da := 129 * n) (na := 129) rfl (by rw [ho]; exact nI_mul 129 n) rfl (by decide) (by omega) (by decide) (Nat.le_of_ble_eq_true rfl) rfl ?_
      refine WF.cw (md_p5 (flatP_u (by omega))) ?_
      refine r_aload_n (q := 86) dX10_ends_85 rfl rfl rfl ?_
      refine r_dup (q := 87) dX10_ends_86 rfl rfl ?_
      refine r_getfield (q := 90) dX10_ends_87 f_X10_ends_72 md_g0 rfl rfl ?_
      refine r_iconst (q := 91) (v := 1) dX10_ends_90 rfl rfl ?_
      refine r_iadd (q := 92) dX10_ends_91 rfl ?_
      refine r_putfield (q := 95) dX10_ends_92 f_X10_ends_72 md_g0 rfl rfl (by exact Nat.le_of_ble_eq_true rfl) rfl ?_
      refine WF.cw (md_po (i := 1)) ?_
      rw [show o 1 + 1 = nI (n + 1) by rw [ho]; exact nI_1 n]
      refine r_iload_n (q := 96) dX10_ends_95 rfl rfl rfl ?_
      refine r_iret dX10_ends_96 rfl (Nat.le_of_ble_eq_true rfl) (Nat.le_of_ble_eq_true rfl) ?_
      exact hp
    · obtain rfl : n = 8 := (nI_eq (by omega) (by decide)).mp (ho.symm.trans h31)
      unfold pPush cnt1 at hp
      rw [if_pos rfl, if_pos rfl] at hp
      refine r_aload_n (q := 35) dX10_ends_34 rfl rfl rfl ?_
      refine r_getfield (q := 38) dX10_ends_35 f_X10_ends_22 md_g0 rfl rfl ?_
      refine r_sipush (q := 41) (v := 129) dX10_ends_38 (by decide) rfl ?_
      refine r_aload_n (q := 42) dX10_ends_41 rfl rfl rfl ?_
      refine r_getfield (q := 45) dX10_ends_42 f_X10_ends_22 md_g0 rfl rfl ?_
      refine r_iconst (q := 46) (v := 0) dX10_ends_45 rfl rfl ?_
      refine r_sipush (q := 49) (v := 903) dX10_ends_46 (by decide) rfl ?_
      refine r_copyi (q := 52) dX10_ends_49 a_X10_ends_66 md_g5 md_g5 (sa := 129) (da := 0) (na := 903) rfl rfl rfl (by decide) (by decide) (by decide) (Nat.le_of_ble_eq_true rfl) rfl ?_
      refine WF.cw (md_p5 flatP_sh) ?_
      refine r_aload_n (q := 53) dX10_ends_52 rfl rfl rfl ?_
      refine r_dup (q := 54) dX10_ends_53 rfl rfl ?_
      refine r_getfield (q := 57) dX10_ends_54 f_X10_ends_72 md_g0 rfl rfl ?_
      refine r_iconst (q := 58) (v := 1) dX10_ends_57 rfl rfl ?_
      refine r_isub (q := 59) dX10_ends_58 rfl ?_
      refine r_putfield (q := 62) dX10_ends_59 f_X10_ends_72 md_g0 rfl rfl (by exact Nat.le_of_ble_eq_true rfl) rfl ?_
      refine WF.cw (md_po (i := 1)) ?_
      refine r_aload_n (q := 63) dX10_ends_62 rfl rfl rfl ?_
      refine r_getfield (q := 66) dX10_ends_63 f_X10_ends_13 md_g0 rfl rfl ?_
      refine r_iconst (q := 67) (v := 0) dX10_ends_66 rfl rfl ?_
      refine r_aload_n (q := 68) dX10_ends_67 rfl rfl rfl ?_
      refine r_getfield (q := 71) dX10_ends_68 f_X10_ends_22 md_g0 rfl rfl ?_
      refine r_sipush (q := 74) (v := 129) dX10_ends_71 (by decide) rfl ?_
      refine r_aload_n (q := 75) dX10_ends_74 rfl rfl rfl ?_
      refine r_getfield (q := 78) dX10_ends_75 f_X10_ends_72 md_g0 rfl rfl ?_
      refine r_imul (q := 79) dX10_ends_78 rfl ?_
      refine r_sipush (q := 82) (v := 129) dX10_ends_79 (by decide) rfl ?_
      refine r_copyi (q := 85) dX10_ends_82 a_X10_ends_66 md_g2 md_g5 (sa := 0) (da := 129 * 7) (na := 129) rfl (by show (129 : Int32) * (o 1 - 1) = _; rw [ho]; decide) rfl (by decide) (by decide) (by decide) (Nat.le_of_ble_eq_true rfl) rfl ?_
      refine WF.cw (md_p5 (flatP_u (n := 7) (by decide))) ?_
      refine r_aload_n (q := 86) dX10_ends_85 rfl rfl rfl ?_
      refine r_dup (q := 87) dX10_ends_86 rfl rfl ?_
      refine r_getfield (q := 90) dX10_ends_87 f_X10_ends_72 md_g0 rfl rfl ?_
      refine r_iconst (q := 91) (v := 1) dX10_ends_90 rfl rfl ?_
      refine r_iadd (q := 92) dX10_ends_91 rfl ?_
      refine r_putfield (q := 95) dX10_ends_92 f_X10_ends_72 md_g0 rfl rfl (by exact Nat.le_of_ble_eq_true rfl) rfl ?_
      refine WF.cw (md_po (i := 1) (o := upd o 1 (o 1 - 1)) (v := upd o 1 (o 1 - 1) 1 + 1)) ?_
      rw [show upd (upd o 1 (o 1 - 1)) 1 (upd o 1 (o 1 - 1) 1 + 1) = upd o 1 (nI 8) by rw [upd_upd, upd_s, ho]; rfl]
      refine r_iload_n (q := 96) dX10_ends_95 rfl rfl rfl ?_
      refine r_iret dX10_ends_96 rfl (Nat.le_of_ble_eq_true rfl) (Nat.le_of_ble_eq_true rfl) ?_
      exact hp
  · rw [if_neg h4] at hp
    refine r_aload_n (q := 8) dX10_ends_7 rfl rfl rfl ?_
    refine r_getfield (q := 11) dX10_ends_8 f_X10_ends_13 md_g0 rfl rfl ?_
    refine r_iconst (q := 12) (v := 0) dX10_ends_11 rfl rfl ?_
    refine r_aload_n (q := 13) dX10_ends_12 rfl rfl rfl ?_
    refine r_getfield (q := 16) dX10_ends_13 f_X10_ends_9 md_g0 rfl rfl ?_
    refine r_iconst (q := 17) (v := 0) dX10_ends_16 rfl rfl ?_
    refine r_sipush (q := 20) (v := 129) dX10_ends_17 (by decide) rfl ?_
    refine r_copyi (q := 23) dX10_ends_20 a_X10_ends_66 md_g2 md_g1 (sa := 0) (da := 0) (na := 129) rfl rfl rfl (by decide) (by decide) (by decide) (Nat.le_of_ble_eq_true rfl) rfl ?_
    refine WF.cw (md_p1 (d2 := cpS d r.1) (flat_cp.trans flat_cpS.symm) rfl rfl) ?_
    refine r_iconst (q := 24) (v := 0) dX10_ends_23 rfl rfl ?_
    refine r_iret dX10_ends_24 rfl (Nat.le_of_ble_eq_true rfl) (Nat.le_of_ble_eq_true rfl) ?_
    exact hp
set_option maxRecDepth 100000 in
set_option maxHeartbeats 4000000 in
theorem ct_X10_mend {E : xE} {Po : xPo} {w : xW} {m : Nat} {d : xCo} {r : mRs} {o : Nat → Int32} {t : mTx} {x s : Int32} {n : Nat} (hc : inP d) (hn : n ≤ 8) (ho : o 1 = nI n) (hp : eP Po E w m o t r d n (mMend d x s) 1 2) : Ct M_X10_mend E [.ref m, .int x, .int s] (md E w m d r o t) Po := by
  refine Ct.of (ws2 := xAll) (L := [some (.ref m), some (.int x), some (.int s)]) (by decide +kernel) rfl rfl (List.forall_mem_cons.mpr ⟨rfl, List.forall_mem_cons.mpr ⟨rfl, List.forall_mem_cons.mpr ⟨rfl, fun _ h => absurd h List.not_mem_nil⟩⟩⟩) (Nat.le_of_ble_eq_true rfl) rfl ?_
  refine r_aload_n (q := 1) dX10_mend_0 rfl rfl rfl ?_
  refine r_callV (q := 4) (ci := 12) (As := []) dX10_mend_1 s_X10_mend_101 md_g0 rfl rfl rfl (Nat.le_of_ble_eq_true rfl) rfl rfl rfl (Nat.le_of_ble_eq_true rfl) (Nat.le_of_ble_eq_true rfl) ⟨(Nat.le_of_ble_eq_true rfl), (Nat.le_of_ble_eq_true rfl)⟩ rfl ?_
  refine ct_X10_keep ?_
  show WF _ E Po _ _ _ _ _ _ _
  refine r_aload_n (q := 5) dX10_mend_4 rfl rfl rfl ?_
  refine r_aload_n (q := 6) dX10_mend_5 rfl rfl rfl ?_
  refine r_iload_n (q := 7) dX10_mend_6 rfl rfl rfl ?_
  refine r_iload_n (q := 8) dX10_mend_7 rfl rfl rfl ?_
  refine r_callV (q := 11) (ci := 12) (As := [_, _]) dX10_mend_8 s_X10_mend_128 md_g0 rfl rfl rfl (Nat.le_of_ble_eq_true rfl) rfl rfl rfl (Nat.le_of_ble_eq_true rfl) (Nat.le_of_ble_eq_true rfl) ⟨(Nat.le_of_ble_eq_true rfl), (Nat.le_of_ble_eq_true rfl)⟩ rfl ?_
  refine ct_X10_doMend hc ?_
  show WF _ E Po _ _ _ _ _ _ _
  refine r_callV (q := 14) (ci := 12) (As := [_]) dX10_mend_11 s_X10_mend_116 md_g0 rfl rfl rfl (Nat.le_of_ble_eq_true rfl) rfl rfl rfl (Nat.le_of_ble_eq_true rfl) (Nat.le_of_ble_eq_true rfl) ⟨(Nat.le_of_ble_eq_true rfl), (Nat.le_of_ble_eq_true rfl)⟩ rfl ?_
  refine ct_X10_ends (n := n) hn (dO_n.trans ho) ?_
  unfold eP at hp
  rcases Classical.em ((dO (upd o 2 0) (mMend d x s).1 1 2) 2 ≤ 0) with e | e
  · rw [if_pos e] at hp
    rw [if_pos e]
    show WF _ E Po _ _ _ _ _ _ _
    refine r_iret dX10_mend_14 rfl (Nat.le_of_ble_eq_true rfl) (Nat.le_of_ble_eq_true rfl) ?_
    exact hp
  · rw [if_neg e] at hp
    rw [if_neg e]
    show WF _ E Po _ _ _ _ _ _ _
    refine r_iret dX10_mend_14 rfl (Nat.le_of_ble_eq_true rfl) (Nat.le_of_ble_eq_true rfl) ?_
    exact hp
set_option maxRecDepth 100000 in
set_option maxHeartbeats 4000000 in
theorem ct_X10_out {E : xE} {Po : xPo} {w : xW} {m : Nat} {d : xCo} {r : mRs} {o : Nat → Int32} {t : mTx} {x u : Int32} {n : Nat} (hc : inP d) (hn : n ≤ 8) (ho : o 1 = nI n) (hp : eP Po E w m o t r d n (mOut d x u) 1 2) : Ct M_X10_out E [.ref m, .int x, .int u] (md E w m d r o t) Po := by
  refine Ct.of (ws2 := xAll) (L := [some (.ref m), some (.int x), some (.int u)]) (by decide +kernel) rfl rfl (List.forall_mem_cons.mpr ⟨rfl, List.forall_mem_cons.mpr ⟨rfl, List.forall_mem_cons.mpr ⟨rfl, fun _ h => absurd h List.not_mem_nil⟩⟩⟩) (Nat.le_of_ble_eq_true rfl) rfl ?_
  refine r_aload_n (q := 1) dX10_out_0 rfl rfl rfl ?_
  refine r_callV (q := 4) (ci := 12) (As := []) dX10_out_1 s_X10_out_101 md_g0 rfl rfl rfl (Nat.le_of_ble_eq_true rfl) rfl rfl rfl (Nat.le_of_ble_eq_true rfl) (Nat.le_of_ble_eq_true rfl) ⟨(Nat.le_of_ble_eq_true rfl), (Nat.le_of_ble_eq_true rfl)⟩ rfl ?_
  refine ct_X10_keep ?_
  show WF _ E Po _ _ _ _ _ _ _
  refine r_aload_n (q := 5) dX10_out_4 rfl rfl rfl ?_
  refine r_aload_n (q := 6) dX10_out_5 rfl rfl rfl ?_
  refine r_iload_n (q := 7) dX10_out_6 rfl rfl rfl ?_
  refine r_iload_n (q := 8) dX10_out_7 rfl rfl rfl ?_
  refine r_callV (q := 11) (ci := 12) (As := [_, _]) dX10_out_8 s_X10_out_140 md_g0 rfl rfl rfl (Nat.le_of_ble_eq_true rfl) rfl rfl rfl (Nat.le_of_ble_eq_true rfl) (Nat.le_of_ble_eq_true rfl) ⟨(Nat.le_of_ble_eq_true rfl), (Nat.le_of_ble_eq_true rfl)⟩ rfl ?_
  refine ct_X10_doOut hc ?_
  show WF _ E Po _ _ _ _ _ _ _
  refine r_callV (q := 14) (ci := 12) (As := [_]) dX10_out_11 s_X10_out_116 md_g0 rfl rfl rfl (Nat.le_of_ble_eq_true rfl) rfl rfl rfl (Nat.le_of_ble_eq_true rfl) (Nat.le_of_ble_eq_true rfl) ⟨(Nat.le_of_ble_eq_true rfl), (Nat.le_of_ble_eq_true rfl)⟩ rfl ?_
  refine ct_X10_ends (n := n) hn (dO_n.trans ho) ?_
  unfold eP at hp
  rcases Classical.em ((dO (upd o 2 0) (mOut d x u).1 1 2) 2 ≤ 0) with e | e
  · rw [if_pos e] at hp
    rw [if_pos e]
    show WF _ E Po _ _ _ _ _ _ _
    refine r_iret dX10_out_14 rfl (Nat.le_of_ble_eq_true rfl) (Nat.le_of_ble_eq_true rfl) ?_
    exact hp
  · rw [if_neg e] at hp
    rw [if_neg e]
    show WF _ E Po _ _ _ _ _ _ _
    refine r_iret dX10_out_14 rfl (Nat.le_of_ble_eq_true rfl) (Nat.le_of_ble_eq_true rfl) ?_
    exact hp
set_option maxRecDepth 100000 in
set_option maxHeartbeats 4000000 in
theorem ct_X10_back {E : xE} {Po : xPo} {w : xW} {m : Nat} {d : xCo} {r : mRs} {o : Nat → Int32} {t : mTx} {x : Int32} {n : Nat} (hc : inP d) (hn : n ≤ 8) (ho : o 1 = nI n) (hp : eP Po E w m o t r d n (mBack d x) 1 2) : Ct M_X10_back E [.ref m, .int x] (md E w m d r o t) Po := by
  refine Ct.of (ws2 := xAll) (L := [some (.ref m), some (.int x)]) (by decide +kernel) rfl rfl (List.forall_mem_cons.mpr ⟨rfl, List.forall_mem_cons.mpr ⟨rfl, fun _ h => absurd h List.not_mem_nil⟩⟩) (Nat.le_of_ble_eq_true rfl) rfl ?_
  refine r_aload_n (q := 1) dX10_back_0 rfl rfl rfl ?_
  refine r_callV (q := 4) (ci := 12) (As := []) dX10_back_1 s_X10_back_101 md_g0 rfl rfl rfl (Nat.le_of_ble_eq_true rfl) rfl rfl rfl (Nat.le_of_ble_eq_true rfl) (Nat.le_of_ble_eq_true rfl) ⟨(Nat.le_of_ble_eq_true rfl), (Nat.le_of_ble_eq_true rfl)⟩ rfl ?_
  refine ct_X10_keep ?_
  show WF _ E Po _ _ _ _ _ _ _
  refine r_aload_n (q := 5) dX10_back_4 rfl rfl rfl ?_
  refine r_aload_n (q := 6) dX10_back_5 rfl rfl rfl ?_
  refine r_iload_n (q := 7) dX10_back_6 rfl rfl rfl ?_
  refine r_callV (q := 10) (ci := 12) (As := [_]) dX10_back_7 s_X10_back_143 md_g0 rfl rfl rfl (Nat.le_of_ble_eq_true rfl) rfl rfl rfl (Nat.le_of_ble_eq_true rfl) (Nat.le_of_ble_eq_true rfl) ⟨(Nat.le_of_ble_eq_true rfl), (Nat.le_of_ble_eq_true rfl)⟩ rfl ?_
  refine ct_X10_doBack hc ?_
  show WF _ E Po _ _ _ _ _ _ _
  refine r_callV (q := 13) (ci := 12) (As := [_]) dX10_back_10 s_X10_back_116 md_g0 rfl rfl rfl (Nat.le_of_ble_eq_true rfl) rfl rfl rfl (Nat.le_of_ble_eq_true rfl) (Nat.le_of_ble_eq_true rfl) ⟨(Nat.le_of_ble_eq_true rfl), (Nat.le_of_ble_eq_true rfl)⟩ rfl ?_
  refine ct_X10_ends (n := n) hn (dO_n.trans ho) ?_
  unfold eP at hp
  rcases Classical.em ((dO (upd o 2 0) (mBack d x).1 1 2) 2 ≤ 0) with e | e
  · rw [if_pos e] at hp
    rw [if_pos e]
    show WF _ E Po _ _ _ _ _ _ _
    refine r_iret dX10_back_13 rfl (Nat.le_of_ble_eq_true rfl) (Nat.le_of_ble_eq_true rfl) ?_
    exact hp
  · rw [if_neg e] at hp
    rw [if_neg e]
    show WF _ E Po _ _ _ _ _ _ _
    refine r_iret dX10_back_13 rfl (Nat.le_of_ble_eq_true rfl) (Nat.le_of_ble_eq_true rfl) ?_
    exact hp
set_option maxRecDepth 100000 in
set_option maxHeartbeats 4000000 in
theorem ct_X10_join {E : xE} {Po : xPo} {w : xW} {m : Nat} {d : xCo} {r : mRs} {o : Nat → Int32} {t : mTx} {x : Int32} {n : Nat} (hc : inP d) (hn : n ≤ 8) (ho : o 1 = nI n) (hp : eP Po E w m o t r d n (mJoin d x) 1 2) : Ct M_X10_join E [.ref m, .int x] (md E w m d r o t) Po := by
  refine Ct.of (ws2 := xAll) (L := [some (.ref m), some (.int x)]) (by decide +kernel) rfl rfl (List.forall_mem_cons.mpr ⟨rfl, List.forall_mem_cons.mpr ⟨rfl, fun _ h => absurd h List.not_mem_nil⟩⟩) (Nat.le_of_ble_eq_true rfl) rfl ?_
  refine r_aload_n (q := 1) dX10_join_0 rfl rfl rfl ?_
  refine r_callV (q := 4) (ci := 12) (As := []) dX10_join_1 s_X10_join_101 md_g0 rfl rfl rfl (Nat.le_of_ble_eq_true rfl) rfl rfl rfl (Nat.le_of_ble_eq_true rfl) (Nat.le_of_ble_eq_true rfl) ⟨(Nat.le_of_ble_eq_true rfl), (Nat.le_of_ble_eq_true rfl)⟩ rfl ?_
  refine ct_X10_keep ?_
  show WF _ E Po _ _ _ _ _ _ _
  refine r_aload_n (q := 5) dX10_join_4 rfl rfl rfl ?_
  refine r_aload_n (q := 6) dX10_join_5 rfl rfl rfl ?_
  refine r_iload_n (q := 7) dX10_join_6 rfl rfl rfl ?_
  refine r_callV (q := 10) (ci := 12) (As := [_]) dX10_join_7 s_X10_join_146 md_g0 rfl rfl rfl (Nat.le_of_ble_eq_true rfl) rfl rfl rfl (Nat.le_of_ble_eq_true rfl) (Nat.le_of_ble_eq_true rfl) ⟨(Nat.le_of_ble_eq_true rfl), (Nat.le_of_ble_eq_true rfl)⟩ rfl ?_
  refine ct_X10_doJoin hc ?_
  show WF _ E Po _ _ _ _ _ _ _
  refine r_callV (q := 13) (ci := 12) (As := [_]) dX10_join_10 s_X10_join_116 md_g0 rfl rfl rfl (Nat.le_of_ble_eq_true rfl) rfl rfl rfl (Nat.le_of_ble_eq_true rfl) (Nat.le_of_ble_eq_true rfl) ⟨(Nat.le_of_ble_eq_true rfl), (Nat.le_of_ble_eq_true rfl)⟩ rfl ?_
  refine ct_X10_ends (n := n) hn (dO_n.trans ho) ?_
  unfold eP at hp
  rcases Classical.em ((dO (upd o 2 0) (mJoin d x).1 1 2) 2 ≤ 0) with e | e
  · rw [if_pos e] at hp
    rw [if_pos e]
    show WF _ E Po _ _ _ _ _ _ _
    refine r_iret dX10_join_13 rfl (Nat.le_of_ble_eq_true rfl) (Nat.le_of_ble_eq_true rfl) ?_
    exact hp
  · rw [if_neg e] at hp
    rw [if_neg e]
    show WF _ E Po _ _ _ _ _ _ _
    refine r_iret dX10_join_13 rfl (Nat.le_of_ble_eq_true rfl) (Nat.le_of_ble_eq_true rfl) ?_
    exact hp
set_option maxRecDepth 100000 in
set_option maxHeartbeats 4000000 in
theorem ct_X10_heat {E : xE} {Po : xPo} {w : xW} {m : Nat} {d : xCo} {r : mRs} {o : Nat → Int32} {t : mTx} {x u : Int32} {n : Nat} (hc : inP d) (hn : n ≤ 8) (ho : o 1 = nI n) (hp : eP Po E w m o t r d n (mHeat d x u) 1 2) : Ct M_X10_heat E [.ref m, .int x, .int u] (md E w m d r o t) Po := by
  refine Ct.of (ws2 := xAll) (L := [some (.ref m), some (.int x), some (.int u)]) (by decide +kernel) rfl rfl (List.forall_mem_cons.mpr ⟨rfl, List.forall_mem_cons.mpr ⟨rfl, List.forall_mem_cons.mpr ⟨rfl, fun _ h => absurd h List.not_mem_nil⟩⟩⟩) (Nat.le_of_ble_eq_true rfl) rfl ?_
  refine r_aload_n (q := 1) dX10_heat_0 rfl rfl rfl ?_
  refine r_callV (q := 4) (ci := 12) (As := []) dX10_heat_1 s_X10_heat_101 md_g0 rfl rfl rfl (Nat.le_of_ble_eq_true rfl) rfl rfl rfl (Nat.le_of_ble_eq_true rfl) (Nat.le_of_ble_eq_true rfl) ⟨(Nat.le_of_ble_eq_true rfl), (Nat.le_of_ble_eq_true rfl)⟩ rfl ?_
  refine ct_X10_keep ?_
  show WF _ E Po _ _ _ _ _ _ _
  refine r_aload_n (q := 5) dX10_heat_4 rfl rfl rfl ?_
  refine r_aload_n (q := 6) dX10_heat_5 rfl rfl rfl ?_
  refine r_iload_n (q := 7) dX10_heat_6 rfl rfl rfl ?_
  refine r_iload_n (q := 8) dX10_heat_7 rfl rfl rfl ?_
  refine r_callV (q := 11) (ci := 12) (As := [_, _]) dX10_heat_8 s_X10_heat_158 md_g0 rfl rfl rfl (Nat.le_of_ble_eq_true rfl) rfl rfl rfl (Nat.le_of_ble_eq_true rfl) (Nat.le_of_ble_eq_true rfl) ⟨(Nat.le_of_ble_eq_true rfl), (Nat.le_of_ble_eq_true rfl)⟩ rfl ?_
  refine ct_X10_doHeat hc ?_
  show WF _ E Po _ _ _ _ _ _ _
  refine r_callV (q := 14) (ci := 12) (As := [_]) dX10_heat_11 s_X10_heat_116 md_g0 rfl rfl rfl (Nat.le_of_ble_eq_true rfl) rfl rfl rfl (Nat.le_of_ble_eq_true rfl) (Nat.le_of_ble_eq_true rfl) ⟨(Nat.le_of_ble_eq_true rfl), (Nat.le_of_ble_eq_true rfl)⟩ rfl ?_
  refine ct_X10_ends (n := n) hn (dO_n.trans ho) ?_
  unfold eP at hp
  rcases Classical.em ((dO (upd o 2 0) (mHeat d x u).1 1 2) 2 ≤ 0) with e | e
  · rw [if_pos e] at hp
    rw [if_pos e]
    show WF _ E Po _ _ _ _ _ _ _
    refine r_iret dX10_heat_14 rfl (Nat.le_of_ble_eq_true rfl) (Nat.le_of_ble_eq_true rfl) ?_
    exact hp
  · rw [if_neg e] at hp
    rw [if_neg e]
    show WF _ E Po _ _ _ _ _ _ _
    refine r_iret dX10_heat_14 rfl (Nat.le_of_ble_eq_true rfl) (Nat.le_of_ble_eq_true rfl) ?_
    exact hp
set_option maxRecDepth 100000 in
set_option maxHeartbeats 4000000 in
theorem ct_X10_cold {E : xE} {Po : xPo} {w : xW} {m : Nat} {d : xCo} {r : mRs} {o : Nat → Int32} {t : mTx} {x : Int32} {n : Nat} (hc : inP d) (hn : n ≤ 8) (ho : o 1 = nI n) (hp : eP Po E w m o t r d n (mCold d x) 1 2) : Ct M_X10_cold E [.ref m, .int x] (md E w m d r o t) Po := by
  refine Ct.of (ws2 := xAll) (L := [some (.ref m), some (.int x)]) (by decide +kernel) rfl rfl (List.forall_mem_cons.mpr ⟨rfl, List.forall_mem_cons.mpr ⟨rfl, fun _ h => absurd h List.not_mem_nil⟩⟩) (Nat.le_of_ble_eq_true rfl) rfl ?_
  refine r_aload_n (q := 1) dX10_cold_0 rfl rfl rfl ?_
  refine r_callV (q := 4) (ci := 12) (As := []) dX10_cold_1 s_X10_cold_101 md_g0 rfl rfl rfl (Nat.le_of_ble_eq_true rfl) rfl rfl rfl (Nat.le_of_ble_eq_true rfl) (Nat.le_of_ble_eq_true rfl) ⟨(Nat.le_of_ble_eq_true rfl), (Nat.le_of_ble_eq_true rfl)⟩ rfl ?_
  refine ct_X10_keep ?_
  show WF _ E Po _ _ _ _ _ _ _
  refine r_aload_n (q := 5) dX10_cold_4 rfl rfl rfl ?_
  refine r_aload_n (q := 6) dX10_cold_5 rfl rfl rfl ?_
  refine r_iload_n (q := 7) dX10_cold_6 rfl rfl rfl ?_
  refine r_callV (q := 10) (ci := 12) (As := [_]) dX10_cold_7 s_X10_cold_161 md_g0 rfl rfl rfl (Nat.le_of_ble_eq_true rfl) rfl rfl rfl (Nat.le_of_ble_eq_true rfl) (Nat.le_of_ble_eq_true rfl) ⟨(Nat.le_of_ble_eq_true rfl), (Nat.le_of_ble_eq_true rfl)⟩ rfl ?_
  refine ct_X10_doCold hc ?_
  show WF _ E Po _ _ _ _ _ _ _
  refine r_callV (q := 13) (ci := 12) (As := [_]) dX10_cold_10 s_X10_cold_116 md_g0 rfl rfl rfl (Nat.le_of_ble_eq_true rfl) rfl rfl rfl (Nat.le_of_ble_eq_true rfl) (Nat.le_of_ble_eq_true rfl) ⟨(Nat.le_of_ble_eq_true rfl), (Nat.le_of_ble_eq_true rfl)⟩ rfl ?_
  refine ct_X10_ends (n := n) hn (dO_n.trans ho) ?_
  unfold eP at hp
  rcases Classical.em ((dO (upd o 2 0) (mCold d x).1 1 2) 2 ≤ 0) with e | e
  · rw [if_pos e] at hp
    rw [if_pos e]
    show WF _ E Po _ _ _ _ _ _ _
    refine r_iret dX10_cold_13 rfl (Nat.le_of_ble_eq_true rfl) (Nat.le_of_ble_eq_true rfl) ?_
    exact hp
  · rw [if_neg e] at hp
    rw [if_neg e]
    show WF _ E Po _ _ _ _ _ _ _
    refine r_iret dX10_cold_13 rfl (Nat.le_of_ble_eq_true rfl) (Nat.le_of_ble_eq_true rfl) ?_
    exact hp
set_option maxRecDepth 100000 in
set_option maxHeartbeats 4000000 in
theorem ct_X10_wash {E : xE} {Po : xPo} {w : xW} {m : Nat} {d : xCo} {r : mRs} {o : Nat → Int32} {t : mTx} {x : Int32} {n : Nat} (hc : inP d) (hn : n ≤ 8) (ho : o 1 = nI n) (hp : eP Po E w m o t r d n (mWash d x) 1 2) : Ct M_X10_wash E [.ref m, .int x] (md E w m d r o t) Po := by
  refine Ct.of (ws2 := xAll) (L := [some (.ref m), some (.int x)]) (by decide +kernel) rfl rfl (List.forall_mem_cons.mpr ⟨rfl, List.forall_mem_cons.mpr ⟨rfl, fun _ h => absurd h List.not_mem_nil⟩⟩) (Nat.le_of_ble_eq_true rfl) rfl ?_
  refine r_aload_n (q := 1) dX10_wash_0 rfl rfl rfl ?_
  refine r_callV (q := 4) (ci := 12) (As := []) dX10_wash_1 s_X10_wash_101 md_g0 rfl rfl rfl (Nat.le_of_ble_eq_true rfl) rfl rfl rfl (Nat.le_of_ble_eq_true rfl) (Nat.le_of_ble_eq_true rfl) ⟨(Nat.le_of_ble_eq_true rfl), (Nat.le_of_ble_eq_true rfl)⟩ rfl ?_
  refine ct_X10_keep ?_
  show WF _ E Po _ _ _ _ _ _ _
  refine r_aload_n (q := 5) dX10_wash_4 rfl rfl rfl ?_
  refine r_aload_n (q := 6) dX10_wash_5 rfl rfl rfl ?_
  refine r_iload_n (q := 7) dX10_wash_6 rfl rfl rfl ?_
  refine r_callV (q := 10) (ci := 12) (As := [_]) dX10_wash_7 s_X10_wash_169 md_g0 rfl rfl rfl (Nat.le_of_ble_eq_true rfl) rfl rfl rfl (Nat.le_of_ble_eq_true rfl) (Nat.le_of_ble_eq_true rfl) ⟨(Nat.le_of_ble_eq_true rfl), (Nat.le_of_ble_eq_true rfl)⟩ rfl ?_
  refine ct_X10_doWash trivial ?_
  show WF _ E Po _ _ _ _ _ _ _
  refine r_callV (q := 13) (ci := 12) (As := [_]) dX10_wash_10 s_X10_wash_116 md_g0 rfl rfl rfl (Nat.le_of_ble_eq_true rfl) rfl rfl rfl (Nat.le_of_ble_eq_true rfl) (Nat.le_of_ble_eq_true rfl) ⟨(Nat.le_of_ble_eq_true rfl), (Nat.le_of_ble_eq_true rfl)⟩ rfl ?_
  refine ct_X10_ends (n := n) hn (dO_n.trans ho) ?_
  unfold eP at hp
  rcases Classical.em ((dO (upd o 2 0) (mWash d x).1 1 2) 2 ≤ 0) with e | e
  · rw [if_pos e] at hp
    rw [if_pos e]
    show WF _ E Po _ _ _ _ _ _ _
    refine r_iret dX10_wash_13 rfl (Nat.le_of_ble_eq_true rfl) (Nat.le_of_ble_eq_true rfl) ?_
    exact hp
  · rw [if_neg e] at hp
    rw [if_neg e]
    show WF _ E Po _ _ _ _ _ _ _
    refine r_iret dX10_wash_13 rfl (Nat.le_of_ble_eq_true rfl) (Nat.le_of_ble_eq_true rfl) ?_
    exact hp
set_option maxRecDepth 100000 in
set_option maxHeartbeats 4000000 in
theorem ct_X10_soap {E : xE} {Po : xPo} {w : xW} {m : Nat} {d : xCo} {r : mRs} {o : Nat → Int32} {t : mTx} {x : Int32} {n : Nat} (hc : inP d) (hn : n ≤ 8) (ho : o 1 = nI n) (hp : eP Po E w m o t r d n (mSoap d x) 1 2) : Ct M_X10_soap E [.ref m, .int x] (md E w m d r o t) Po := by
  refine Ct.of (ws2 := xAll) (L := [some (.ref m), some (.int x)]) (by decide +kernel) rfl rfl (List.forall_mem_cons.mpr ⟨rfl, List.forall_mem_cons.mpr ⟨rfl, fun _ h => absurd h List.not_mem_nil⟩⟩) (Nat.le_of_ble_eq_true rfl) rfl ?_
  refine r_aload_n (q := 1) dX10_soap_0 rfl rfl rfl ?_
  refine r_callV (q := 4) (ci := 12) (As := []) dX10_soap_1 s_X10_soap_101 md_g0 rfl rfl rfl (Nat.le_of_ble_eq_true rfl) rfl rfl rfl (Nat.le_of_ble_eq_true rfl) (Nat.le_of_ble_eq_true rfl) ⟨(Nat.le_of_ble_eq_true rfl), (Nat.le_of_ble_eq_true rfl)⟩ rfl ?_
  refine ct_X10_keep ?_
  show WF _ E Po _ _ _ _ _ _ _
  refine r_aload_n (q := 5) dX10_soap_4 rfl rfl rfl ?_
  refine r_aload_n (q := 6) dX10_soap_5 rfl rfl rfl ?_
  refine r_iload_n (q := 7) dX10_soap_6 rfl rfl rfl ?_
  refine r_callV (q := 10) (ci := 12) (As := [_]) dX10_soap_7 s_X10_soap_172 md_g0 rfl rfl rfl (Nat.le_of_ble_eq_true rfl) rfl rfl rfl (Nat.le_of_ble_eq_true rfl) (Nat.le_of_ble_eq_true rfl) ⟨(Nat.le_of_ble_eq_true rfl), (Nat.le_of_ble_eq_true rfl)⟩ rfl ?_
  refine ct_X10_doSoap trivial ?_
  show WF _ E Po _ _ _ _ _ _ _
  refine r_callV (q := 13) (ci := 12) (As := [_]) dX10_soap_10 s_X10_soap_116 md_g0 rfl rfl rfl (Nat.le_of_ble_eq_true rfl) rfl rfl rfl (Nat.le_of_ble_eq_true rfl) (Nat.le_of_ble_eq_true rfl) ⟨(Nat.le_of_ble_eq_true rfl), (Nat.le_of_ble_eq_true rfl)⟩ rfl ?_
  refine ct_X10_ends (n := n) hn (dO_n.trans ho) ?_
  unfold eP at hp
  rcases Classical.em ((dO (upd o 2 0) (mSoap d x).1 1 2) 2 ≤ 0) with e | e
  · rw [if_pos e] at hp
    rw [if_pos e]
    show WF _ E Po _ _ _ _ _ _ _
    refine r_iret dX10_soap_13 rfl (Nat.le_of_ble_eq_true rfl) (Nat.le_of_ble_eq_true rfl) ?_
    exact hp
  · rw [if_neg e] at hp
    rw [if_neg e]
    show WF _ E Po _ _ _ _ _ _ _
    refine r_iret dX10_soap_13 rfl (Nat.le_of_ble_eq_true rfl) (Nat.le_of_ble_eq_true rfl) ?_
    exact hp
set_option maxRecDepth 100000 in
set_option maxHeartbeats 4000000 in
theorem ct_X10_tear {E : xE} {Po : xPo} {w : xW} {m : Nat} {d : xCo} {r : mRs} {o : Nat → Int32} {t : mTx} {x s : Int32} {n : Nat} (hc : inP d) (hn : n ≤ 8) (ho : o 1 = nI n) (hp : eP Po E w m o t r d n (mTear d x s) 1 2) : Ct M_X10_tear E [.ref m, .int x, .int s] (md E w m d r o t) Po := by
  refine Ct.of (ws2 := xAll) (L := [some (.ref m), some (.int x), some (.int s)]) (by decide +kernel) rfl rfl (List.forall_mem_cons.mpr ⟨rfl, List.forall_mem_cons.mpr ⟨rfl, List.forall_mem_cons.mpr ⟨rfl, fun _ h => absurd h List.not_mem_nil⟩⟩⟩) (Nat.le_of_ble_eq_true rfl) rfl ?_
  unfold mTear at hp
  refine r_aload_n (q := 1) dX10_tear_0 rfl rfl rfl ?_
  refine r_callV (q := 4) (ci := 12) (As := []) dX10_tear_1 s_X10_tear_101 md_g0 rfl rfl rfl (Nat.le_of_ble_eq_true rfl) rfl rfl rfl (Nat.le_of_ble_eq_true rfl) (Nat.le_of_ble_eq_true rfl) ⟨(Nat.le_of_ble_eq_true rfl), (Nat.le_of_ble_eq_true rfl)⟩ rfl ?_
  refine ct_X10_keep ?_
  show WF _ E Po _ _ _ _ _ _ _
  refine r_aload_n (q := 5) dX10_tear_4 rfl rfl rfl ?_
  refine r_iload_n (q := 6) dX10_tear_5 rfl rfl rfl ?_
  refine r_iload_n (q := 7) dX10_tear_6 rfl rfl rfl ?_
  refine r_callV (q := 10) (ci := 12) (As := [_, _]) dX10_tear_7 s_X10_tear_119 md_g0 rfl rfl rfl (Nat.le_of_ble_eq_true rfl) rfl rfl rfl (Nat.le_of_ble_eq_true rfl) (Nat.le_of_ble_eq_true rfl) ⟨(Nat.le_of_ble_eq_true rfl), (Nat.le_of_ble_eq_true rfl)⟩ rfl ?_
  refine ct_X10_isSeam hc.1 (fun hx hs => ?_) (fun hx hs => ?_) (fun hx => ?_)
  · show WF _ E Po _ _ _ _ _ _ _
    rw [if_pos hx, if_neg hs] at hp
    obtain ⟨j, hj, rfl⟩ := hx.ix
    rw [nI_cl (by omega)] at hp
    refine r_if_ne (q := 19) (q2 := 13) dX10_tear_10 (by decide) rfl (fun _ => ?_) (fun h9 => absurd h9 (by decide))
    refine r_aload_n (q := 20) dX10_tear_19 rfl rfl rfl ?_
    refine r_iload_n (q := 21) dX10_tear_20 rfl rfl rfl ?_
    refine r_iconst (q := 22) (v := 2) dX10_tear_21 rfl rfl ?_
    refine r_aload_n (q := 23) dX10_tear_22 rfl rfl rfl ?_
    refine r_iload_n (q := 24) dX10_tear_23 rfl rfl rfl ?_
    refine r_iconst (q := 25) (v := 2) dX10_tear_24 rfl rfl ?_
    refine r_callV (q := 28) (ci := 12) (As := [_, _]) dX10_tear_25 s_X10_tear_93 md_g0 rfl rfl rfl (Nat.le_of_ble_eq_true rfl) rfl rfl rfl (Nat.le_of_ble_eq_true rfl) (Nat.le_of_ble_eq_true rfl) ⟨(Nat.le_of_ble_eq_true rfl), (Nat.le_of_ble_eq_true rfl)⟩ rfl ?_
    refine ct_X10_tub1 (k := 2) hj (by decide) ?_
    show WF _ E Po _ _ _ _ _ _ _
    refine r_iconst (q := 29) (v := 1) dX10_tear_28 rfl rfl ?_
    refine r_iload_n (q := 30) dX10_tear_29 rfl rfl rfl ?_
    refine r_ishl (q := 31) dX10_tear_30 rfl ?_
    refine r_ior (q := 32) dX10_tear_31 rfl ?_
    refine r_callV (q := 35) (ci := 12) (As := [_, _, _]) dX10_tear_32 s_X10_tear_112 md_g0 rfl rfl rfl (Nat.le_of_ble_eq_true rfl) rfl rfl rfl (Nat.le_of_ble_eq_true rfl) (Nat.le_of_ble_eq_true rfl) ⟨(Nat.le_of_ble_eq_true rfl), (Nat.le_of_ble_eq_true rfl)⟩ rfl ?_
    refine ct_X10_setTub (k := 2) hj (by decide) ?_
    show WF _ E Po _ _ _ _ _ _ _
    refine r_aload_n (q := 36) dX10_tear_35 rfl rfl rfl ?_
    refine r_aload_n (q := 37) dX10_tear_36 rfl rfl rfl ?_
    refine r_iload_n (q := 38) dX10_tear_37 rfl rfl rfl ?_
    refine r_callV (q := 41) (ci := 12) (As := [_]) dX10_tear_38 s_X10_tear_125 md_g0 rfl rfl rfl (Nat.le_of_ble_eq_true rfl) rfl rfl rfl (Nat.le_of_ble_eq_true rfl) (Nat.le_of_ble_eq_true rfl) ⟨(Nat.le_of_ble_eq_true rfl), (Nat.le_of_ble_eq_true rfl)⟩ rfl ?_
    refine ct_X10_tornMany hj ?_
    show WF _ E Po _ _ _ _ _ _ _
    rw [cT_s]
    refine r_callV (q := 44) (ci := 12) (As := [_]) dX10_tear_41 s_X10_tear_116 md_g0 rfl rfl rfl (Nat.le_of_ble_eq_true rfl) rfl rfl rfl (Nat.le_of_ble_eq_true rfl) (Nat.le_of_ble_eq_true rfl) ⟨(Nat.le_of_ble_eq_true rfl), (Nat.le_of_ble_eq_true rfl)⟩ rfl ?_
    have h8 := eP_0 hp
    refine ct_X10_ends (n := n) hn ho ?_
    rw [if_pos (show upd o 2 0 2 ≤ 0 from (by decide : (0 : Int32) ≤ 0))]
    show WF _ E Po _ _ _ _ _ _ _
    refine r_iret dX10_tear_44 rfl (Nat.le_of_ble_eq_true rfl) (Nat.le_of_ble_eq_true rfl) ?_
    exact h8
  · show WF _ E Po _ _ _ _ _ _ _
    rw [if_pos hx, if_pos hs] at hp
    refine r_if_ne (q := 19) (q2 := 13) dX10_tear_10 (by decide) rfl (fun h9 => absurd rfl h9) (fun _ => ?_)
    refine r_aload_n (q := 14) dX10_tear_13 rfl rfl rfl ?_
    refine r_iconst (q := 15) (v := 1) dX10_tear_14 rfl rfl ?_
    refine r_callV (q := 18) (ci := 12) (As := [_]) dX10_tear_15 s_X10_tear_104 md_g0 rfl rfl rfl (Nat.le_of_ble_eq_true rfl) rfl rfl rfl (Nat.le_of_ble_eq_true rfl) (Nat.le_of_ble_eq_true rfl) ⟨(Nat.le_of_ble_eq_true rfl), (Nat.le_of_ble_eq_true rfl)⟩ rfl ?_
    refine ct_X10_fails ?_
    show WF _ E Po _ _ _ _ _ _ _
    refine r_iret dX10_tear_18 rfl (Nat.le_of_ble_eq_true rfl) (Nat.le_of_ble_eq_true rfl) ?_
    have h8 := eP_2 hp
    rw [cpS_id] at h8
    exact h8
  · show WF _ E Po _ _ _ _ _ _ _
    rw [if_neg hx] at hp
    refine r_if_ne (q := 19) (q2 := 13) dX10_tear_10 (by decide) rfl (fun h9 => absurd rfl h9) (fun _ => ?_)
    refine r_aload_n (q := 14) dX10_tear_13 rfl rfl rfl ?_
    refine r_iconst (q := 15) (v := 1) dX10_tear_14 rfl rfl ?_
    refine r_callV (q := 18) (ci := 12) (As := [_]) dX10_tear_15 s_X10_tear_104 md_g0 rfl rfl rfl (Nat.le_of_ble_eq_true rfl) rfl rfl rfl (Nat.le_of_ble_eq_true rfl) (Nat.le_of_ble_eq_true rfl) ⟨(Nat.le_of_ble_eq_true rfl), (Nat.le_of_ble_eq_true rfl)⟩ rfl ?_
    refine ct_X10_fails ?_
    show WF _ E Po _ _ _ _ _ _ _
    refine r_iret dX10_tear_18 rfl (Nat.le_of_ble_eq_true rfl) (Nat.le_of_ble_eq_true rfl) ?_
    have h8 := eP_2 hp
    rw [cpS_id] at h8
    exact h8
set_option maxRecDepth 100000 in
set_option maxHeartbeats 4000000 in
theorem ct_X10_gas {E : xE} {Po : xPo} {w : xW} {m : Nat} {d : xCo} {r : mRs} {o : Nat → Int32} {t : mTx} {x y : Int32} {n : Nat} (hc : inP d) (hn : n ≤ 8) (ho : o 1 = nI n) (hp : eP Po E w m o t r d n (mGas d x y) 2 3) : Ct M_X10_gas E [.ref m, .int x, .int y] (md E w m d r o t) Po := by
  refine Ct.of (ws2 := xAll) (L := [some (.ref m), some (.int x), some (.int y)]) (by decide +kernel) rfl rfl (List.forall_mem_cons.mpr ⟨rfl, List.forall_mem_cons.mpr ⟨rfl, List.forall_mem_cons.mpr ⟨rfl, fun _ h => absurd h List.not_mem_nil⟩⟩⟩) (Nat.le_of_ble_eq_true rfl) rfl ?_
  unfold mGas mn at hp
  refine r_aload_n (q := 1) dX10_gas_0 rfl rfl rfl ?_
  refine r_callV (q := 4) (ci := 12) (As := []) dX10_gas_1 s_X10_gas_101 md_g0 rfl rfl rfl (Nat.le_of_ble_eq_true rfl) rfl rfl rfl (Nat.le_of_ble_eq_true rfl) (Nat.le_of_ble_eq_true rfl) ⟨(Nat.le_of_ble_eq_true rfl), (Nat.le_of_ble_eq_true rfl)⟩ rfl ?_
  refine ct_X10_keep ?_
  show WF _ E Po _ _ _ _ _ _ _
  refine r_aload_n (q := 5) dX10_gas_4 rfl rfl rfl ?_
  refine r_iload_n (q := 6) dX10_gas_5 rfl rfl rfl ?_
  refine r_callV (q := 9) (ci := 12) (As := [_]) dX10_gas_6 s_X10_gas_149 md_g0 rfl rfl rfl (Nat.le_of_ble_eq_true rfl) rfl rfl rfl (Nat.le_of_ble_eq_true rfl) (Nat.le_of_ble_eq_true rfl) ⟨(Nat.le_of_ble_eq_true rfl), (Nat.le_of_ble_eq_true rfl)⟩ rfl ?_
  refine ct_X10_isHeater hc.1 (fun hx => ?_) (fun hx => ?_)
  · show WF _ E Po _ _ _ _ _ _ _
    rw [if_pos hx] at hp
    obtain ⟨g, hg, rfl⟩ := hx.ix
    rw [nI_cl (by omega)] at hp
    refine r_if_ne (q := 18) (q2 := 12) dX10_gas_9 (by decide) rfl (fun _ => ?_) (fun h9 => absurd h9 (by decide))
    refine r_iload_n (q := 19) dX10_gas_18 rfl rfl rfl ?_
    refine r_iconst (q := 20) (v := 1) dX10_gas_19 rfl rfl ?_
    refine r_bipush (q := 22) (v := 12) dX10_gas_20 (by decide) rfl ?_
    refine r_callS (q := 25) (As := [_, _, _]) dX10_gas_22 s_X10_gas_85 rfl rfl (Nat.le_of_ble_eq_true rfl) rfl rfl rfl (Nat.le_of_ble_eq_true rfl) (Nat.le_of_ble_eq_true rfl) ⟨(Nat.le_of_ble_eq_true rfl), (Nat.le_of_ble_eq_true rfl)⟩ rfl ?_
    refine ct_X10_in (fun hi => ?_) (fun hi => ?_)
    · show WF _ E Po _ _ _ _ _ _ _
      rw [if_neg hi] at hp
      refine r_if_ne (q := 34) (q2 := 28) dX10_gas_25 (by decide) rfl (fun _ => ?_) (fun h9 => absurd h9 (by decide))
      refine r_aload_n (q := 35) dX10_gas_34 rfl rfl rfl ?_
      refine r_getfield (q := 38) dX10_gas_35 f_X10_gas_9 md_g0 rfl rfl ?_
      refine r_bipush (q := 40) (v := 7) dX10_gas_38 (by decide) rfl ?_
      refine r_ldS (q := 41) (k := 7) dX10_gas_40 (by decide) rfl ?_
      refine r_iload_n (q := 42) dX10_gas_41 rfl rfl rfl ?_
      refine r_icmp_ge (q := 62) (q2 := 45) dX10_gas_42 (by decide) rfl (fun h42 => ?_) (fun h42 => ?_)
      · rw [if_pos h42] at hp
        refine r_aload_n (q := 63) dX10_gas_62 rfl rfl rfl ?_
        refine r_getfield (q := 66) dX10_gas_63 f_X10_gas_9 md_g0 rfl rfl ?_
        refine r_bipush (q := 68) (v := 7) dX10_gas_66 (by decide) rfl ?_
        refine r_dup2 (q := 69) dX10_gas_68 rfl rfl rfl ?_
        refine r_ldS (q := 70) (k := 7) dX10_gas_69 (by decide) rfl ?_
        refine r_iload_n (q := 71) dX10_gas_70 rfl rfl rfl ?_
        refine r_isub (q := 72) dX10_gas_71 rfl ?_
        refine r_stS (q := 73) (k := 7) dX10_gas_72 (by decide) rfl ?_
        refine r_aload_n (q := 74) dX10_gas_73 rfl rfl rfl ?_
        refine r_getfield (q := 77) dX10_gas_74 f_X10_gas_9 md_g0 rfl rfl ?_
        refine r_bipush (q := 79) (v := 121) dX10_gas_77 (by decide) rfl ?_
        refine r_iconst (q := 80) (v := 2) dX10_gas_79 rfl rfl ?_
        refine r_iload_n (q := 81) dX10_gas_80 rfl rfl rfl ?_
        refine r_imul (q := 82) dX10_gas_81 rfl ?_
        refine r_iadd (q := 83) dX10_gas_82 rfl ?_
        refine r_bipush (q := 85) (v := 60) dX10_gas_83 (by decide) rfl ?_
        refine r_aload_n (q := 86) dX10_gas_85 rfl rfl rfl ?_
        refine r_iload_n (q := 87) dX10_gas_86 rfl rfl rfl ?_
        refine r_callV (q := 90) (ci := 12) (As := [_]) dX10_gas_87 s_X10_gas_152 md_g0 rfl rfl rfl (Nat.le_of_ble_eq_true rfl) rfl rfl rfl (Nat.le_of_ble_eq_true rfl) (Nat.le_of_ble_eq_true rfl) ⟨(Nat.le_of_ble_eq_true rfl), (Nat.le_of_ble_eq_true rfl)⟩ rfl ?_
        refine ct_X10_gasOf hg ?_
        show WF _ E Po _ _ _ _ _ _ _
        refine r_iconst (q := 91) (v := 5) dX10_gas_90 rfl rfl ?_
        refine r_iload_n (q := 92) dX10_gas_91 rfl rfl rfl ?_
        refine r_imul (q := 93) dX10_gas_92 rfl ?_
        refine r_iadd (q := 94) dX10_gas_93 rfl ?_
        refine r_mmin (q := 97) dX10_gas_94 p_X10_gas_164 (Nat.le_of_ble_eq_true rfl) rfl (Nat.le_of_ble_eq_true rfl) (Nat.le_of_ble_eq_true rfl) ?_
        refine r_stG (q := 98) (k := 0) dX10_gas_97 hg (by decide) ixG rfl ?_
        refine r_aload_n (q := 99) dX10_gas_98 rfl rfl rfl ?_
        refine r_aload_n (q := 100) dX10_gas_99 rfl rfl rfl ?_
        refine r_iload_n (q := 101) dX10_gas_100 rfl rfl rfl ?_
        refine r_callV (q := 104) (ci := 12) (As := [_]) dX10_gas_101 s_X10_gas_152 md_g0 rfl rfl rfl (Nat.le_of_ble_eq_true rfl) rfl rfl rfl (Nat.le_of_ble_eq_true rfl) (Nat.le_of_ble_eq_true rfl) ⟨(Nat.le_of_ble_eq_true rfl), (Nat.le_of_ble_eq_true rfl)⟩ rfl ?_
        refine ct_X10_gasOf hg ?_
        show WF _ E Po _ _ _ _ _ _ _
        rw [cG_s]
        refine r_callV (q := 107) (ci := 12) (As := [_]) dX10_gas_104 s_X10_gas_116 md_g0 rfl rfl rfl (Nat.le_of_ble_eq_true rfl) rfl rfl rfl (Nat.le_of_ble_eq_true rfl) (Nat.le_of_ble_eq_true rfl) ⟨(Nat.le_of_ble_eq_true rfl), (Nat.le_of_ble_eq_true rfl)⟩ rfl ?_
        have h8 := eP_0 hp
        refine ct_X10_ends (n := n) hn ho ?_
        rw [if_pos (show upd o 2 0 2 ≤ 0 from (by decide : (0 : Int32) ≤ 0))]
        show WF _ E Po _ _ _ _ _ _ _
        refine r_iret dX10_gas_107 rfl (Nat.le_of_ble_eq_true rfl) (Nat.le_of_ble_eq_true rfl) ?_
        exact h8
      · rw [if_neg h42] at hp
        refine r_aload_n (q := 46) dX10_gas_45 rfl rfl rfl ?_
        refine r_iconst (q := 47) (v := 3) dX10_gas_46 rfl rfl ?_
        refine r_bipush (q := 49) (v := 12) dX10_gas_47 (by decide) rfl ?_
        refine r_iload_n (q := 50) dX10_gas_49 rfl rfl rfl ?_
        refine r_aload_n (q := 51) dX10_gas_50 rfl rfl rfl ?_
        refine r_getfield (q := 54) dX10_gas_51 f_X10_gas_9 md_g0 rfl rfl ?_
        refine r_bipush (q := 56) (v := 7) dX10_gas_54 (by decide) rfl ?_
        refine r_ldS (q := 57) (k := 7) dX10_gas_56 (by decide) rfl ?_
        refine r_isub (q := 58) dX10_gas_57 rfl ?_
        refine r_callV (q := 61) (ci := 12) (As := [_, _, _]) dX10_gas_58 s_X10_gas_108 md_g0 rfl rfl rfl (Nat.le_of_ble_eq_true rfl) rfl rfl rfl (Nat.le_of_ble_eq_true rfl) (Nat.le_of_ble_eq_true rfl) ⟨(Nat.le_of_ble_eq_true rfl), (Nat.le_of_ble_eq_true rfl)⟩ rfl ?_
        refine ct_X10_refuse ?_
        show WF _ E Po _ _ _ _ _ _ _
        refine r_iret dX10_gas_61 rfl (Nat.le_of_ble_eq_true rfl) (Nat.le_of_ble_eq_true rfl) ?_
        have h8 := eP_1 (by decide) hp
        rw [cpS_R] at h8
        exact h8
    · show WF _ E Po _ _ _ _ _ _ _
      rw [if_pos hi] at hp
      refine r_if_ne (q := 34) (q2 := 28) dX10_gas_25 (by decide) rfl (fun h9 => absurd rfl h9) (fun _ => ?_)
      refine r_aload_n (q := 29) dX10_gas_28 rfl rfl rfl ?_
      refine r_iconst (q := 30) (v := 2) dX10_gas_29 rfl rfl ?_
      refine r_callV (q := 33) (ci := 12) (As := [_]) dX10_gas_30 s_X10_gas_104 md_g0 rfl rfl rfl (Nat.le_of_ble_eq_true rfl) rfl rfl rfl (Nat.le_of_ble_eq_true rfl) (Nat.le_of_ble_eq_true rfl) ⟨(Nat.le_of_ble_eq_true rfl), (Nat.le_of_ble_eq_true rfl)⟩ rfl ?_
      refine ct_X10_fails ?_
      show WF _ E Po _ _ _ _ _ _ _
      refine r_iret dX10_gas_33 rfl (Nat.le_of_ble_eq_true rfl) (Nat.le_of_ble_eq_true rfl) ?_
      have h8 := eP_3 (by decide) hp
      rw [cpS_id] at h8
      exact h8
  · show WF _ E Po _ _ _ _ _ _ _
    rw [if_neg hx] at hp
    refine r_if_ne (q := 18) (q2 := 12) dX10_gas_9 (by decide) rfl (fun h9 => absurd rfl h9) (fun _ => ?_)
    refine r_aload_n (q := 13) dX10_gas_12 rfl rfl rfl ?_
    refine r_iconst (q := 14) (v := 1) dX10_gas_13 rfl rfl ?_
    refine r_callV (q := 17) (ci := 12) (As := [_]) dX10_gas_14 s_X10_gas_104 md_g0 rfl rfl rfl (Nat.le_of_ble_eq_true rfl) rfl rfl rfl (Nat.le_of_ble_eq_true rfl) (Nat.le_of_ble_eq_true rfl) ⟨(Nat.le_of_ble_eq_true rfl), (Nat.le_of_ble_eq_true rfl)⟩ rfl ?_
    refine ct_X10_fails ?_
    show WF _ E Po _ _ _ _ _ _ _
    refine r_iret dX10_gas_17 rfl (Nat.le_of_ble_eq_true rfl) (Nat.le_of_ble_eq_true rfl) ?_
    have h8 := eP_2 hp
    rw [cpS_id] at h8
    exact h8
set_option maxRecDepth 100000 in
set_option maxHeartbeats 4000000 in
theorem ct_X10_heater {E : xE} {Po : xPo} {w : xW} {m : Nat} {d : xCo} {r : mRs} {o : Nat → Int32} {t : mTx} {n : Nat} (hc : inP d) (hn : n ≤ 8) (ho : o 1 = nI n) (hp : eP Po E w m o t r d n (mHeater d) 1 1) : Ct M_X10_heater E [.ref m] (md E w m d r o t) Po := by
  refine Ct.of (ws2 := xAll) (L := [some (.ref m), none]) (by decide +kernel) rfl rfl (List.forall_mem_cons.mpr ⟨rfl, fun _ h => absurd h List.not_mem_nil⟩) (Nat.le_of_ble_eq_true rfl) rfl ?_
  unfold mHeater at hp
  refine r_aload_n (q := 1) dX10_heater_0 rfl rfl rfl ?_
  refine r_getfield (q := 4) dX10_heater_1 f_X10_heater_9 md_g0 rfl rfl ?_
  refine r_iconst (q := 5) (v := 3) dX10_heater_4 rfl rfl ?_
  refine r_ldS (q := 6) (k := 3) dX10_heater_5 (by decide) rfl ?_
  refine r_istore_n (q := 7) dX10_heater_6 rfl (Nat.le_of_ble_eq_true rfl) (xone_of rfl) rfl ?_
  refine r_aload_n (q := 8) dX10_heater_7 rfl rfl rfl ?_
  refine r_callV (q := 11) (ci := 12) (As := []) dX10_heater_8 s_X10_heater_101 md_g0 rfl rfl rfl (Nat.le_of_ble_eq_true rfl) rfl rfl rfl (Nat.le_of_ble_eq_true rfl) (Nat.le_of_ble_eq_true rfl) ⟨(Nat.le_of_ble_eq_true rfl), (Nat.le_of_ble_eq_true rfl)⟩ rfl ?_
  refine ct_X10_keep ?_
  show WF _ E Po _ _ _ _ _ _ _
  refine r_iload_n (q := 12) dX10_heater_11 rfl rfl rfl ?_
  refine r_iconst (q := 13) (v := 4) dX10_heater_12 rfl rfl ?_
  refine r_icmp_ne (q := 24) (q2 := 16) dX10_heater_13 (by decide) rfl (fun h13 => ?_) (fun h13 => ?_)
  · rw [if_neg h13] at hp
    obtain ⟨g, hg4, eg⟩ := hc.1.2.2.1
    have hg : g < 4 := by
      have : g ≠ 4 := fun z => h13 (by rw [eg, z]; rfl)
      omega
    rw [eg, nI_cl (by omega)] at hp
    rw [eg]
    refine r_aload_n (q := 25) dX10_heater_24 rfl rfl rfl ?_
    refine r_getfield (q := 28) dX10_heater_25 f_X10_heater_9 md_g0 rfl rfl ?_
    refine r_bipush (q := 30) (v := 121) dX10_heater_28 (by decide) rfl ?_
    refine r_iconst (q := 31) (v := 2) dX10_heater_30 rfl rfl ?_
    refine r_iload_n (q := 32) dX10_heater_31 rfl rfl rfl ?_
    refine r_imul (q := 33) dX10_heater_32 rfl ?_
    refine r_iadd (q := 34) dX10_heater_33 rfl ?_
    refine r_bipush (q := 36) (v := 20) dX10_heater_34 (by decide) rfl ?_
    refine r_stG (q := 37) (k := 0) dX10_heater_36 hg (by decide) ixG rfl ?_
    refine r_aload_n (q := 38) dX10_heater_37 rfl rfl rfl ?_
    refine r_getfield (q := 41) dX10_heater_38 f_X10_heater_9 md_g0 rfl rfl ?_
    refine r_bipush (q := 43) (v := 121) dX10_heater_41 (by decide) rfl ?_
    refine r_iconst (q := 44) (v := 2) dX10_heater_43 rfl rfl ?_
    refine r_iload_n (q := 45) dX10_heater_44 rfl rfl rfl ?_
    refine r_imul (q := 46) dX10_heater_45 rfl ?_
    refine r_iadd (q := 47) dX10_heater_46 rfl ?_
    refine r_iconst (q := 48) (v := 1) dX10_heater_47 rfl rfl ?_
    refine r_iadd (q := 49) dX10_heater_48 rfl ?_
    refine r_iconst (q := 50) (v := (-1)) dX10_heater_49 rfl rfl ?_
    refine r_stG (q := 51) (k := 1) dX10_heater_50 hg (by decide) ixG1 rfl ?_
    refine r_aload_n (q := 52) dX10_heater_51 rfl rfl rfl ?_
    refine r_getfield (q := 55) dX10_heater_52 f_X10_heater_9 md_g0 rfl rfl ?_
    refine r_iconst (q := 56) (v := 3) dX10_heater_55 rfl rfl ?_
    refine r_dup2 (q := 57) dX10_heater_56 rfl rfl rfl ?_
    refine r_ldS (q := 58) (k := 3) dX10_heater_57 (by decide) rfl ?_
    refine r_iconst (q := 59) (v := 1) dX10_heater_58 rfl rfl ?_
    refine r_iadd (q := 60) dX10_heater_59 rfl ?_
    refine r_stS (q := 61) (k := 3) dX10_heater_60 (by decide) rfl ?_
    refine r_aload_n (q := 62) dX10_heater_61 rfl rfl rfl ?_
    refine r_iload_n (q := 63) dX10_heater_62 rfl rfl rfl ?_
    refine r_callV (q := 66) (ci := 12) (As := [_]) dX10_heater_63 s_X10_heater_116 md_g0 rfl rfl rfl (Nat.le_of_ble_eq_true rfl) rfl rfl rfl (Nat.le_of_ble_eq_true rfl) (Nat.le_of_ble_eq_true rfl) ⟨(Nat.le_of_ble_eq_true rfl), (Nat.le_of_ble_eq_true rfl)⟩ rfl ?_
    have h8 := eP_0 hp
    refine ct_X10_ends (n := n) hn ho ?_
    rw [if_pos (show upd o 2 0 2 ≤ 0 from (by decide : (0 : Int32) ≤ 0))]
    show WF _ E Po _ _ _ _ _ _ _
    refine r_iret dX10_heater_66 rfl (Nat.le_of_ble_eq_true rfl) (Nat.le_of_ble_eq_true rfl) ?_
    rw [← eg] at h8 ⊢
    exact h8
  · rw [if_pos h13] at hp
    refine r_aload_n (q := 17) dX10_heater_16 rfl rfl rfl ?_
    refine r_iconst (q := 18) (v := 1) dX10_heater_17 rfl rfl ?_
    refine r_iconst (q := 19) (v := 1) dX10_heater_18 rfl rfl ?_
    refine r_iconst (q := 20) (v := 4) dX10_heater_19 rfl rfl ?_
    refine r_callV (q := 23) (ci := 12) (As := [_, _, _]) dX10_heater_20 s_X10_heater_108 md_g0 rfl rfl rfl (Nat.le_of_ble_eq_true rfl) rfl rfl rfl (Nat.le_of_ble_eq_true rfl) (Nat.le_of_ble_eq_true rfl) ⟨(Nat.le_of_ble_eq_true rfl), (Nat.le_of_ble_eq_true rfl)⟩ rfl ?_
    refine ct_X10_refuse ?_
    show WF _ E Po _ _ _ _ _ _ _
    refine r_iret dX10_heater_23 rfl (Nat.le_of_ble_eq_true rfl) (Nat.le_of_ble_eq_true rfl) ?_
    have h8 := eP_1 (by decide) hp
    rw [cpS_R] at h8
    exact h8
set_option maxRecDepth 100000 in
set_option maxHeartbeats 4000000 in
theorem lp_X10_tub {E : xE} {Po : xPo} {w0 w : xW} {m : Nat} {z : Int32} {d : xCo} {r : mRs} {o : Nat → Int32} {t : mTx} {j : Nat} (hj : j < 8) (kx : WF M_X10_tub E Po w0 79 [some (.ref m), some (.int z), some (.int (nI j)), some (.int (nI 7))] [] (md E w m (rowT d j z 7) r o t) 0 0) (n9 : Nat) : ∀ (k : Nat) (hk : k ≤ 7) (hn9 : 7 - k < n9), WF M_X10_tub E Po w0 43 [some (.ref m), some (.int z), some (.int (nI j)), some (.int (nI k))] [] (md E w m (rowT d j z k) r o t) 0 0 := by
  induction n9 with
  | zero => intro k hk hn9; exact absurd hn9 (Nat.not_lt_zero _)
  | succ n9 ih =>
    intro k hk hn9
    refine r_iload_n (q := 44) dX10_tub_43 rfl rfl rfl ?_
    refine r_bipush (q := 46) (v := 7) dX10_tub_44 (by decide) rfl ?_
    refine r_icmp_ge (q := 79) (q2 := 49) dX10_tub_46 (by decide) rfl (fun h46 => ?_) (fun h46 => ?_)
    · obtain rfl : k = 7 := by have := (nI_leI (a := 7) (by omega) (by omega)).mp h46; omega
      exact kx
    · have hk7 : k < 7 := by
        have : ¬ 7 ≤ k := fun q => h46 ((nI_leI (a := 7) (by omega) (by omega)).mpr q)
        omega
      refine r_aload_n (q := 50) dX10_tub_49 rfl rfl rfl ?_
      refine r_iload_n (q := 51) dX10_tub_50 rfl rfl rfl ?_
      refine r_iload_n (q := 52) dX10_tub_51 rfl rfl rfl ?_
      refine r_iload_n (q := 53) dX10_tub_52 rfl rfl rfl ?_
      refine r_if_ne (q := 60) (q2 := 56) dX10_tub_53 (by decide) rfl (fun h53 => ?_) (fun h53 => ?_)
      · have k0 : ¬ k = 0 := fun q => h53 (by rw [q]; rfl)
        refine r_iload_n (q := 61) dX10_tub_60 rfl rfl rfl ?_
        refine r_iconst (q := 62) (v := 1) dX10_tub_61 rfl rfl ?_
        refine r_icmp_ne (q := 69) (q2 := 65) dX10_tub_62 (by decide) rfl (fun h62 => ?_) (fun h62 => ?_)
        · have k1 : ¬ k = 1 := fun q => h62 (by rw [q]; rfl)
          have hv := rowT_s (d := d) (j := j) (n := k) (z := z)
          rw [if_neg k0, if_neg k1] at hv
          refine r_iconst (q := 70) (v := 0) dX10_tub_69 rfl rfl ?_
          refine r_callV (q := 73) (ci := 12) (As := [_, _, _]) dX10_tub_70 s_X10_tub_112 md_g0 rfl rfl rfl (Nat.le_of_ble_eq_true rfl) rfl rfl rfl (Nat.le_of_ble_eq_true rfl) (Nat.le_of_ble_eq_true rfl) ⟨(Nat.le_of_ble_eq_true rfl), (Nat.le_of_ble_eq_true rfl)⟩ rfl ?_
          refine ct_X10_setTub hj hk7 ?_
          show WF _ E Po _ _ _ _ _ _ _
          rw [hv]
          refine r_iinc (q := 76) dX10_tub_73 rfl (Nat.le_of_ble_eq_true rfl) (xone_of rfl) rfl ?_
          rw [show nI k + Int32.ofInt 1 = nI (k + 1) from nI_1 k]
          refine r_goto (q := 43) dX10_tub_76 (by decide) ?_
          exact ih (k + 1) (by omega) (by omega)
        · have k1 : k = 1 := (nI_eq (b := 1) (by omega) (by decide)).mp h62
          have hv := rowT_s (d := d) (j := j) (n := k) (z := z)
          rw [if_neg k0, if_pos k1] at hv
          refine r_iconst (q := 66) (v := (-1)) dX10_tub_65 rfl rfl ?_
          refine r_goto (q := 70) dX10_tub_66 (by decide) ?_
          refine r_callV (q := 73) (ci := 12) (As := [_, _, _]) dX10_tub_70 s_X10_tub_112 md_g0 rfl rfl rfl (Nat.le_of_ble_eq_true rfl) rfl rfl rfl (Nat.le_of_ble_eq_true rfl) (Nat.le_of_ble_eq_true rfl) ⟨(Nat.le_of_ble_eq_true rfl), (Nat.le_of_ble_eq_true rfl)⟩ rfl ?_
          refine ct_X10_setTub hj hk7 ?_
          show WF _ E Po _ _ _ _ _ _ _
          rw [hv]
          refine r_iinc (q := 76) dX10_tub_73 rfl (Nat.le_of_ble_eq_true rfl) (xone_of rfl) rfl ?_
          rw [show nI k + Int32.ofInt 1 = nI (k + 1) from nI_1 k]
          refine r_goto (q := 43) dX10_tub_76 (by decide) ?_
          exact ih (k + 1) (by omega) (by omega)
      · have k0 : k = 0 := (nI_eq (b := 0) (by omega) (by decide)).mp h53
        have hv := rowT_s (d := d) (j := j) (n := k) (z := z)
        rw [if_pos k0] at hv
        refine r_iload_n (q := 57) dX10_tub_56 rfl rfl rfl ?_
        refine r_goto (q := 70) dX10_tub_57 (by decide) ?_
        refine r_callV (q := 73) (ci := 12) (As := [_, _, _]) dX10_tub_70 s_X10_tub_112 md_g0 rfl rfl rfl (Nat.le_of_ble_eq_true rfl) rfl rfl rfl (Nat.le_of_ble_eq_true rfl) (Nat.le_of_ble_eq_true rfl) ⟨(Nat.le_of_ble_eq_true rfl), (Nat.le_of_ble_eq_true rfl)⟩ rfl ?_
        refine ct_X10_setTub hj hk7 ?_
        show WF _ E Po _ _ _ _ _ _ _
        rw [hv]
        refine r_iinc (q := 76) dX10_tub_73 rfl (Nat.le_of_ble_eq_true rfl) (xone_of rfl) rfl ?_
        rw [show nI k + Int32.ofInt 1 = nI (k + 1) from nI_1 k]
        refine r_goto (q := 43) dX10_tub_76 (by decide) ?_
        exact ih (k + 1) (by omega) (by omega)
set_option maxRecDepth 100000 in
set_option maxHeartbeats 4000000 in
theorem ct_X10_tub {E : xE} {Po : xPo} {w : xW} {m : Nat} {d : xCo} {r : mRs} {o : Nat → Int32} {t : mTx} {z : Int32} {n : Nat} (hc : inP d) (hn : n ≤ 8) (ho : o 1 = nI n) (hp : eP Po E w m o t r d n (mTub d z) 1 2) : Ct M_X10_tub E [.ref m, .int z] (md E w m d r o t) Po := by
  refine Ct.of (ws2 := xAll) (L := [some (.ref m), some (.int z), none, none]) (by decide +kernel) rfl rfl (List.forall_mem_cons.mpr ⟨rfl, List.forall_mem_cons.mpr ⟨rfl, fun _ h => absurd h List.not_mem_nil⟩⟩) (Nat.le_of_ble_eq_true rfl) rfl ?_
  unfold mTub at hp
  refine r_aload_n (q := 1) dX10_tub_0 rfl rfl rfl ?_
  refine r_getfield (q := 4) dX10_tub_1 f_X10_tub_9 md_g0 rfl rfl ?_
  refine r_iconst (q := 5) (v := 1) dX10_tub_4 rfl rfl ?_
  refine r_ldS (q := 6) (k := 1) dX10_tub_5 (by decide) rfl ?_
  refine r_istore_n (q := 7) dX10_tub_6 rfl (Nat.le_of_ble_eq_true rfl) (xone_of rfl) rfl ?_
  refine r_aload_n (q := 8) dX10_tub_7 rfl rfl rfl ?_
  refine r_callV (q := 11) (ci := 12) (As := []) dX10_tub_8 s_X10_tub_101 md_g0 rfl rfl rfl (Nat.le_of_ble_eq_true rfl) rfl rfl rfl (Nat.le_of_ble_eq_true rfl) (Nat.le_of_ble_eq_true rfl) ⟨(Nat.le_of_ble_eq_true rfl), (Nat.le_of_ble_eq_true rfl)⟩ rfl ?_
  refine ct_X10_keep ?_
  show WF _ E Po _ _ _ _ _ _ _
  refine r_iload_n (q := 12) dX10_tub_11 rfl rfl rfl ?_
  refine r_iconst (q := 13) (v := 1) dX10_tub_12 rfl rfl ?_
  refine r_iconst (q := 14) (v := 3) dX10_tub_13 rfl rfl ?_
  refine r_callS (q := 17) (As := [_, _, _]) dX10_tub_14 s_X10_tub_85 rfl rfl (Nat.le_of_ble_eq_true rfl) rfl rfl rfl (Nat.le_of_ble_eq_true rfl) (Nat.le_of_ble_eq_true rfl) ⟨(Nat.le_of_ble_eq_true rfl), (Nat.le_of_ble_eq_true rfl)⟩ rfl ?_
  refine ct_X10_in (fun hi => ?_) (fun hi => ?_)
  · show WF _ E Po _ _ _ _ _ _ _
    rw [if_neg hi] at hp
    refine r_if_ne (q := 26) (q2 := 20) dX10_tub_17 (by decide) rfl (fun _ => ?_) (fun h9 => absurd h9 (by decide))
    refine r_iload_n (q := 27) dX10_tub_26 rfl rfl rfl ?_
    refine r_bipush (q := 29) (v := 8) dX10_tub_27 (by decide) rfl ?_
    refine r_icmp_ne (q := 41) (q2 := 32) dX10_tub_29 (by decide) rfl (fun h29 => ?_) (fun h29 => ?_)
    · rw [if_neg h29] at hp
      obtain ⟨j, hj8, ej⟩ := hc.1.1
      have hj : j < 8 := by
        have : j ≠ 8 := fun q => h29 (by rw [ej, q]; rfl)
        omega
      rw [ej, nI_cl (by omega)] at hp
      rw [ej]
      refine r_iconst (q := 42) (v := 0) dX10_tub_41 rfl rfl ?_
      refine r_istore_n (q := 43) dX10_tub_42 rfl (Nat.le_of_ble_eq_true rfl) (xone_of rfl) rfl ?_
      refine WF.cw (congrArg (fun c => md E w m c (d, r.2) (upd o 2 0) t) (rowT_0 (d := d) (j := j) (z := z)).symm) ?_
      refine lp_X10_tub hj ?_ 8 0 (by omega) (by omega)
      refine r_aload_n (q := 80) dX10_tub_79 rfl rfl rfl ?_
      refine r_getfield (q := 83) dX10_tub_80 f_X10_tub_9 md_g0 rfl rfl ?_
      refine r_iconst (q := 84) (v := 1) dX10_tub_83 rfl rfl ?_
      refine r_dup2 (q := 85) dX10_tub_84 rfl rfl rfl ?_
      refine r_ldS (q := 86) (k := 1) dX10_tub_85 (by decide) rfl ?_
      refine r_iconst (q := 87) (v := 1) dX10_tub_86 rfl rfl ?_
      refine r_iadd (q := 88) dX10_tub_87 rfl ?_
      refine r_stS (q := 89) (k := 1) dX10_tub_88 (by decide) rfl ?_
      refine r_aload_n (q := 90) dX10_tub_89 rfl rfl rfl ?_
      refine r_iload_n (q := 91) dX10_tub_90 rfl rfl rfl ?_
      refine r_callV (q := 94) (ci := 12) (As := [_]) dX10_tub_91 s_X10_tub_116 md_g0 rfl rfl rfl (Nat.le_of_ble_eq_true rfl) rfl rfl rfl (Nat.le_of_ble_eq_true rfl) (Nat.le_of_ble_eq_true rfl) ⟨(Nat.le_of_ble_eq_true rfl), (Nat.le_of_ble_eq_true rfl)⟩ rfl ?_
      have h8 := eP_0 hp
      refine ct_X10_ends (n := n) hn ho ?_
      rw [if_pos (show upd o 2 0 2 ≤ 0 from (by decide : (0 : Int32) ≤ 0))]
      show WF _ E Po _ _ _ _ _ _ _
      refine r_iret dX10_tub_94 rfl (Nat.le_of_ble_eq_true rfl) (Nat.le_of_ble_eq_true rfl) ?_
      rw [show (rowT d j z 7).1 1 = nI j from ej]
      exact h8
    · rw [if_pos h29] at hp
      refine r_aload_n (q := 33) dX10_tub_32 rfl rfl rfl ?_
      refine r_iconst (q := 34) (v := 2) dX10_tub_33 rfl rfl ?_
      refine r_iconst (q := 35) (v := 1) dX10_tub_34 rfl rfl ?_
      refine r_bipush (q := 37) (v := 8) dX10_tub_35 (by decide) rfl ?_
      refine r_callV (q := 40) (ci := 12) (As := [_, _, _]) dX10_tub_37 s_X10_tub_108 md_g0 rfl rfl rfl (Nat.le_of_ble_eq_true rfl) rfl rfl rfl (Nat.le_of_ble_eq_true rfl) (Nat.le_of_ble_eq_true rfl) ⟨(Nat.le_of_ble_eq_true rfl), (Nat.le_of_ble_eq_true rfl)⟩ rfl ?_
      refine ct_X10_refuse ?_
      show WF _ E Po _ _ _ _ _ _ _
      refine r_iret dX10_tub_40 rfl (Nat.le_of_ble_eq_true rfl) (Nat.le_of_ble_eq_true rfl) ?_
      have h8 := eP_1 (by decide) hp
      rw [cpS_R] at h8
      exact h8
  · show WF _ E Po _ _ _ _ _ _ _
    rw [if_pos hi] at hp
    refine r_if_ne (q := 26) (q2 := 20) dX10_tub_17 (by decide) rfl (fun h9 => absurd rfl h9) (fun _ => ?_)
    refine r_aload_n (q := 21) dX10_tub_20 rfl rfl rfl ?_
    refine r_iconst (q := 22) (v := 1) dX10_tub_21 rfl rfl ?_
    refine r_callV (q := 25) (ci := 12) (As := [_]) dX10_tub_22 s_X10_tub_104 md_g0 rfl rfl rfl (Nat.le_of_ble_eq_true rfl) rfl rfl rfl (Nat.le_of_ble_eq_true rfl) (Nat.le_of_ble_eq_true rfl) ⟨(Nat.le_of_ble_eq_true rfl), (Nat.le_of_ble_eq_true rfl)⟩ rfl ?_
    refine ct_X10_fails ?_
    show WF _ E Po _ _ _ _ _ _ _
    refine r_iret dX10_tub_25 rfl (Nat.le_of_ble_eq_true rfl) (Nat.le_of_ble_eq_true rfl) ?_
    have h8 := eP_3 (by decide) hp
    rw [cpS_id] at h8
    exact h8
set_option maxRecDepth 100000 in
set_option maxHeartbeats 4000000 in
theorem lp_X10_tent {E : xE} {Po : xPo} {w0 w : xW} {m : Nat} {z : Int32} {d : xCo} {r : mRs} {o : Nat → Int32} {t : mTx} {j : Nat} (hj : j < 5) (kx : WF M_X10_tent E Po w0 83 [some (.ref m), some (.int z), some (.int (nI j)), some (.int (nI 11))] [] (md E w m (rowU d j z 11) r o t) 0 0) (n9 : Nat) : ∀ (k : Nat) (hk : k ≤ 11) (hn9 : 11 - k < n9), WF M_X10_tent E Po w0 42 [some (.ref m), some (.int z), some (.int (nI j)), some (.int (nI k))] [] (md E w m (rowU d j z k) r o t) 0 0 := by
  induction n9 with
  | zero => intro k hk hn9; exact absurd hn9 (Nat.not_lt_zero _)
  | succ n9 ih =>
    intro k hk hn9
    refine r_iload_n (q := 43) dX10_tent_42 rfl rfl rfl ?_
    refine r_bipush (q := 45) (v := 11) dX10_tent_43 (by decide) rfl ?_
    refine r_icmp_ge (q := 83) (q2 := 48) dX10_tent_45 (by decide) rfl (fun h45 => ?_) (fun h45 => ?_)
    · obtain rfl : k = 11 := by have := (nI_leI (a := 11) (by omega) (by omega)).mp h45; omega
      exact kx
    · have hk7 : k < 11 := by
        have : ¬ 11 ≤ k := fun q => h45 ((nI_leI (a := 11) (by omega) (by omega)).mpr q)
        omega
      refine r_aload_n (q := 49) dX10_tent_48 rfl rfl rfl ?_
      refine r_iload_n (q := 50) dX10_tent_49 rfl rfl rfl ?_
      refine r_iload_n (q := 51) dX10_tent_50 rfl rfl rfl ?_
      refine r_iload_n (q := 52) dX10_tent_51 rfl rfl rfl ?_
      refine r_if_ne (q := 59) (q2 := 55) dX10_tent_52 (by decide) rfl (fun h52 => ?_) (fun h52 => ?_)
      · have k0 : ¬ k = 0 := fun q => h52 (by rw [q]; rfl)
        refine r_iload_n (q := 60) dX10_tent_59 rfl rfl rfl ?_
        refine r_iconst (q := 61) (v := 1) dX10_tent_60 rfl rfl ?_
        refine r_icmp_eq (q := 69) (q2 := 64) dX10_tent_61 (by decide) rfl (fun h61 => ?_) (fun h61 => ?_)
        · have k1 : k = 1 := (nI_eq (b := 1) (by omega) (by decide)).mp h61
          have hv := rowU_s (d := d) (j := j) (n := k) (z := z)
          rw [if_neg k0, if_pos k1] at hv
          refine r_iconst (q := 70) (v := (-1)) dX10_tent_69 rfl rfl ?_
          refine r_goto (q := 74) dX10_tent_70 (by decide) ?_
          refine r_callV (q := 77) (ci := 12) (As := [_, _, _]) dX10_tent_74 s_X10_tent_137 md_g0 rfl rfl rfl (Nat.le_of_ble_eq_true rfl) rfl rfl rfl (Nat.le_of_ble_eq_true rfl) (Nat.le_of_ble_eq_true rfl) ⟨(Nat.le_of_ble_eq_true rfl), (Nat.le_of_ble_eq_true rfl)⟩ rfl ?_
          refine ct_X10_setTent hj hk7 ?_
          show WF _ E Po _ _ _ _ _ _ _
          rw [hv]
          refine r_iinc (q := 80) dX10_tent_77 rfl (Nat.le_of_ble_eq_true rfl) (xone_of rfl) rfl ?_
          rw [show nI k + Int32.ofInt 1 = nI (k + 1) from nI_1 k]
          refine r_goto (q := 42) dX10_tent_80 (by decide) ?_
          exact ih (k + 1) (by omega) (by omega)
        · have k1 : ¬ k = 1 := fun q => h61 (by rw [q]; rfl)
          refine r_iload_n (q := 65) dX10_tent_64 rfl rfl rfl ?_
          refine r_iconst (q := 66) (v := 2) dX10_tent_65 rfl rfl ?_
          refine r_icmp_ne (q := 73) (q2 := 69) dX10_tent_66 (by decide) rfl (fun h66 => ?_) (fun h66 => ?_)
          · have k2 : ¬ k = 2 := fun q => h66 (by rw [q]; rfl)
            have hv := rowU_s (d := d) (j := j) (n := k) (z := z)
            rw [if_neg k0, if_neg k1, if_neg k2] at hv
            refine r_iconst (q := 74) (v := 0) dX10_tent_73 rfl rfl ?_
            refine r_callV (q := 77) (ci := 12) (As := [_, _, _]) dX10_tent_74 s_X10_tent_137 md_g0 rfl rfl rfl (Nat.le_of_ble_eq_true rfl) rfl rfl rfl (Nat.le_of_ble_eq_true rfl) (Nat.le_of_ble_eq_true rfl) ⟨(Nat.le_of_ble_eq_true rfl), (Nat.le_of_ble_eq_true rfl)⟩ rfl ?_
            refine ct_X10_setTent hj hk7 ?_
            show WF _ E Po _ _ _ _ _ _ _
            rw [hv]
            refine r_iinc (q := 80) dX10_tent_77 rfl (Nat.le_of_ble_eq_true rfl) (xone_of rfl) rfl ?_
            rw [show nI k + Int32.ofInt 1 = nI (k + 1) from nI_1 k]
            refine r_goto (q := 42) dX10_tent_80 (by decide) ?_
            exact ih (k + 1) (by omega) (by omega)
          · have k2 : k = 2 := (nI_eq (b := 2) (by omega) (by decide)).mp h66
            have hv := rowU_s (d := d) (j := j) (n := k) (z := z)
            rw [if_neg k0, if_neg k1, if_pos k2] at hv
            refine r_iconst (q := 70) (v := (-1)) dX10_tent_69 rfl rfl ?_
            refine r_goto (q := 74) dX10_tent_70 (by decide) ?_
            refine r_callV (q := 77) (ci := 12) (As := [_, _, _]) dX10_tent_74 s_X10_tent_137 md_g0 rfl rfl rfl (Nat.le_of_ble_eq_true rfl) rfl rfl rfl (Nat.le_of_ble_eq_true rfl) (Nat.le_of_ble_eq_true rfl) ⟨(Nat.le_of_ble_eq_true rfl), (Nat.le_of_ble_eq_true rfl)⟩ rfl ?_
            refine ct_X10_setTent hj hk7 ?_
            show WF _ E Po _ _ _ _ _ _ _
            rw [hv]
            refine r_iinc (q := 80) dX10_tent_77 rfl (Nat.le_of_ble_eq_true rfl) (xone_of rfl) rfl ?_
            rw [show nI k + Int32.ofInt 1 = nI (k + 1) from nI_1 k]
            refine r_goto (q := 42) dX10_tent_80 (by decide) ?_
            exact ih (k + 1) (by omega) (by omega)
      · have k0 : k = 0 := (nI_eq (b := 0) (by omega) (by decide)).mp h52
        have hv := rowU_s (d := d) (j := j) (n := k) (z := z)
        rw [if_pos k0] at hv
        refine r_iload_n (q := 56) dX10_tent_55 rfl rfl rfl ?_
        refine r_goto (q := 74) dX10_tent_56 (by decide) ?_
        refine r_callV (q := 77) (ci := 12) (As := [_, _, _]) dX10_tent_74 s_X10_tent_137 md_g0 rfl rfl rfl (Nat.le_of_ble_eq_true rfl) rfl rfl rfl (Nat.le_of_ble_eq_true rfl) (Nat.le_of_ble_eq_true rfl) ⟨(Nat.le_of_ble_eq_true rfl), (Nat.le_of_ble_eq_true rfl)⟩ rfl ?_
        refine ct_X10_setTent hj hk7 ?_
        show WF _ E Po _ _ _ _ _ _ _
        rw [hv]
        refine r_iinc (q := 80) dX10_tent_77 rfl (Nat.le_of_ble_eq_true rfl) (xone_of rfl) rfl ?_
        rw [show nI k + Int32.ofInt 1 = nI (k + 1) from nI_1 k]
        refine r_goto (q := 42) dX10_tent_80 (by decide) ?_
        exact ih (k + 1) (by omega) (by omega)
set_option maxRecDepth 100000 in
set_option maxHeartbeats 4000000 in
theorem ct_X10_tent {E : xE} {Po : xPo} {w : xW} {m : Nat} {d : xCo} {r : mRs} {o : Nat → Int32} {t : mTx} {z : Int32} {n : Nat} (hc : inP d) (hn : n ≤ 8) (ho : o 1 = nI n) (hp : eP Po E w m o t r d n (mTent d z) 1 2) : Ct M_X10_tent E [.ref m, .int z] (md E w m d r o t) Po := by
  refine Ct.of (ws2 := xAll) (L := [some (.ref m), some (.int z), none, none]) (by decide +kernel) rfl rfl (List.forall_mem_cons.mpr ⟨rfl, List.forall_mem_cons.mpr ⟨rfl, fun _ h => absurd h List.not_mem_nil⟩⟩) (Nat.le_of_ble_eq_true rfl) rfl ?_
  unfold mTent at hp
  refine r_aload_n (q := 1) dX10_tent_0 rfl rfl rfl ?_
  refine r_getfield (q := 4) dX10_tent_1 f_X10_tent_9 md_g0 rfl rfl ?_
  refine r_iconst (q := 5) (v := 2) dX10_tent_4 rfl rfl ?_
  refine r_ldS (q := 6) (k := 2) dX10_tent_5 (by decide) rfl ?_
  refine r_istore_n (q := 7) dX10_tent_6 rfl (Nat.le_of_ble_eq_true rfl) (xone_of rfl) rfl ?_
  refine r_aload_n (q := 8) dX10_tent_7 rfl rfl rfl ?_
  refine r_callV (q := 11) (ci := 12) (As := []) dX10_tent_8 s_X10_tent_101 md_g0 rfl rfl rfl (Nat.le_of_ble_eq_true rfl) rfl rfl rfl (Nat.le_of_ble_eq_true rfl) (Nat.le_of_ble_eq_true rfl) ⟨(Nat.le_of_ble_eq_true rfl), (Nat.le_of_ble_eq_true rfl)⟩ rfl ?_
  refine ct_X10_keep ?_
  show WF _ E Po _ _ _ _ _ _ _
  refine r_iload_n (q := 12) dX10_tent_11 rfl rfl rfl ?_
  refine r_iconst (q := 13) (v := 0) dX10_tent_12 rfl rfl ?_
  refine r_bipush (q := 15) (v := 9) dX10_tent_13 (by decide) rfl ?_
  refine r_callS (q := 18) (As := [_, _, _]) dX10_tent_15 s_X10_tent_85 rfl rfl (Nat.le_of_ble_eq_true rfl) rfl rfl rfl (Nat.le_of_ble_eq_true rfl) (Nat.le_of_ble_eq_true rfl) ⟨(Nat.le_of_ble_eq_true rfl), (Nat.le_of_ble_eq_true rfl)⟩ rfl ?_
  refine ct_X10_in (fun hi => ?_) (fun hi => ?_)
  · show WF _ E Po _ _ _ _ _ _ _
    rw [if_neg hi] at hp
    refine r_if_ne (q := 27) (q2 := 21) dX10_tent_18 (by decide) rfl (fun _ => ?_) (fun h9 => absurd h9 (by decide))
    refine r_iload_n (q := 28) dX10_tent_27 rfl rfl rfl ?_
    refine r_iconst (q := 29) (v := 5) dX10_tent_28 rfl rfl ?_
    refine r_icmp_ne (q := 40) (q2 := 32) dX10_tent_29 (by decide) rfl (fun h29 => ?_) (fun h29 => ?_)
    · rw [if_neg h29] at hp
      obtain ⟨j, hj8, ej⟩ := hc.1.2.1
      have hj : j < 5 := by
        have : j ≠ 5 := fun q => h29 (by rw [ej, q]; rfl)
        omega
      rw [ej, nI_cl (by omega)] at hp
      rw [ej]
      refine r_iconst (q := 41) (v := 0) dX10_tent_40 rfl rfl ?_
      refine r_istore_n (q := 42) dX10_tent_41 rfl (Nat.le_of_ble_eq_true rfl) (xone_of rfl) rfl ?_
      refine WF.cw (congrArg (fun c => md E w m c (d, r.2) (upd o 2 0) t) (rowU_0 (d := d) (j := j) (z := z)).symm) ?_
      refine lp_X10_tent hj ?_ 12 0 (by omega) (by omega)
      refine r_aload_n (q := 84) dX10_tent_83 rfl rfl rfl ?_
      refine r_getfield (q := 87) dX10_tent_84 f_X10_tent_9 md_g0 rfl rfl ?_
      refine r_iconst (q := 88) (v := 2) dX10_tent_87 rfl rfl ?_
      refine r_dup2 (q := 89) dX10_tent_88 rfl rfl rfl ?_
      refine r_ldS (q := 90) (k := 2) dX10_tent_89 (by decide) rfl ?_
      refine r_iconst (q := 91) (v := 1) dX10_tent_90 rfl rfl ?_
      refine r_iadd (q := 92) dX10_tent_91 rfl ?_
      refine r_stS (q := 93) (k := 2) dX10_tent_92 (by decide) rfl ?_
      refine r_aload_n (q := 94) dX10_tent_93 rfl rfl rfl ?_
      refine r_iload_n (q := 95) dX10_tent_94 rfl rfl rfl ?_
      refine r_callV (q := 98) (ci := 12) (As := [_]) dX10_tent_95 s_X10_tent_116 md_g0 rfl rfl rfl (Nat.le_of_ble_eq_true rfl) rfl rfl rfl (Nat.le_of_ble_eq_true rfl) (Nat.le_of_ble_eq_true rfl) ⟨(Nat.le_of_ble_eq_true rfl), (Nat.le_of_ble_eq_true rfl)⟩ rfl ?_
      have h8 := eP_0 hp
      refine ct_X10_ends (n := n) hn ho ?_
      rw [if_pos (show upd o 2 0 2 ≤ 0 from (by decide : (0 : Int32) ≤ 0))]
      show WF _ E Po _ _ _ _ _ _ _
      refine r_iret dX10_tent_98 rfl (Nat.le_of_ble_eq_true rfl) (Nat.le_of_ble_eq_true rfl) ?_
      rw [show (rowU d j z 11).1 2 = nI j from ej]
      exact h8
    · rw [if_pos h29] at hp
      refine r_aload_n (q := 33) dX10_tent_32 rfl rfl rfl ?_
      refine r_iconst (q := 34) (v := 2) dX10_tent_33 rfl rfl ?_
      refine r_iconst (q := 35) (v := 1) dX10_tent_34 rfl rfl ?_
      refine r_iconst (q := 36) (v := 5) dX10_tent_35 rfl rfl ?_
      refine r_callV (q := 39) (ci := 12) (As := [_, _, _]) dX10_tent_36 s_X10_tent_108 md_g0 rfl rfl rfl (Nat.le_of_ble_eq_true rfl) rfl rfl rfl (Nat.le_of_ble_eq_true rfl) (Nat.le_of_ble_eq_true rfl) ⟨(Nat.le_of_ble_eq_true rfl), (Nat.le_of_ble_eq_true rfl)⟩ rfl ?_
      refine ct_X10_refuse ?_
      show WF _ E Po _ _ _ _ _ _ _
      refine r_iret dX10_tent_39 rfl (Nat.le_of_ble_eq_true rfl) (Nat.le_of_ble_eq_true rfl) ?_
      have h8 := eP_1 (by decide) hp
      rw [cpS_R] at h8
      exact h8
  · show WF _ E Po _ _ _ _ _ _ _
    rw [if_pos hi] at hp
    refine r_if_ne (q := 27) (q2 := 21) dX10_tent_18 (by decide) rfl (fun h9 => absurd rfl h9) (fun _ => ?_)
    refine r_aload_n (q := 22) dX10_tent_21 rfl rfl rfl ?_
    refine r_iconst (q := 23) (v := 1) dX10_tent_22 rfl rfl ?_
    refine r_callV (q := 26) (ci := 12) (As := [_]) dX10_tent_23 s_X10_tent_104 md_g0 rfl rfl rfl (Nat.le_of_ble_eq_true rfl) rfl rfl rfl (Nat.le_of_ble_eq_true rfl) (Nat.le_of_ble_eq_true rfl) ⟨(Nat.le_of_ble_eq_true rfl), (Nat.le_of_ble_eq_true rfl)⟩ rfl ?_
    refine ct_X10_fails ?_
    show WF _ E Po _ _ _ _ _ _ _
    refine r_iret dX10_tent_26 rfl (Nat.le_of_ble_eq_true rfl) (Nat.le_of_ble_eq_true rfl) ?_
    have h8 := eP_3 (by decide) hp
    rw [cpS_id] at h8
    exact h8
