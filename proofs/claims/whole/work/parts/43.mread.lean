/-! ===== 43.mread: the reference carries out a text (rows laid by wip/whole/gen/make43.py) ===== -/
def mDo (d : xCo) (c : Nat) (a b : Int32) : mOc := if c = 0 then mOut d a b else if c = 1 then mBack d a else if c = 2 then mHeat d a b else if c = 3 then mCold d a else if c = 4 then mJoin d a else if c = 5 then mMend d a b else if c = 6 then mWash d a else if c = 7 then mSoap d a else mPass d a
/-- the commands that were read -/
def okC (com : Nat → Int32) (K : Nat) : Prop := ∀ k, k < K → ∃ c, c < 9 ∧ com (3 * k) = nI c
def mDk (com : Nat → Int32) (k : Nat) (d : xCo) : mOc := mDo d (com (3 * k)).toNatClampNeg (com (3 * k + 1)) (com (3 * k + 2))
/-- carried out one after the other: whether all were, and what is left -/
def runM (com : Nat → Int32) : Nat → Nat → xCo → Bool × xCo
  | 0, _, d => (true, d)
  | z + 1, k, d => if (mDk com k d).1 = 0 then runM com z (k + 1) (mDk com k d).2.2 else (false, if (mDk com k d).1 = -1 then (mDk com k d).2.2 else cR (mDk com k d).2.2 20 (nI k))
def okR (N : Nat) (com : Nat → Int32) : Nat → Nat → xCo → Prop
  | 0, _, _ => True
  | z + 1, k, d => inP d ∧ (∃ N, inH d N) ∧ ((mDk com k d).1 = 0 → okR N com z (k + 1) (mDk com k d).2.2)
theorem mDo_tag {d : xCo} {c : Nat} {a b : Int32} : (mDo d c a b).1 = 0 ∨ (mDo d c a b).1 = -1 ∨ (mDo d c a b).1 = -2 ∨ (mDo d c a b).1 = -3 := by
  unfold mDo
  split
  · unfold mOut; repeat' split
    all_goals simp
  split
  · unfold mBack; repeat' split
    all_goals simp
  split
  · unfold mHeat; repeat' split
    all_goals simp
  split
  · unfold mCold; repeat' split
    all_goals simp
  split
  · unfold mJoin; repeat' split
    all_goals simp
  split
  · unfold mMend; repeat' split
    all_goals simp
  split
  · unfold mWash; repeat' split
    all_goals simp
  split
  · unfold mSoap; repeat' split
    all_goals simp
  · unfold mPass; repeat' split
    all_goals simp
set_option maxRecDepth 100000 in
set_option maxHeartbeats 4000000 in
theorem ct_X10_does {E : xE} {Po : xPo} {w : xW} {m : Nat} {d : xCo} {r : mRs} {o : Nat → Int32} {t : mTx} {k c N : Nat} (hk : k < 50) (hc : c < 9) (ec : t.2.2 (3 * k) = nI c) (h1 : inP d) (h2 : inH d N) (hp : Po (.inl none) (md E w m (mDk t.2.2 k d).2.2 r (dO o (mDk t.2.2 k d).1 1 2) t)) : Ct M_X10_does E [.ref m, .int (nI k)] (md E w m d r o t) Po := by
  refine Ct.of (ws2 := xAll) (L := [some (.ref m), some (.int (nI k)), none, none, none]) (by decide +kernel) rfl rfl (List.forall_mem_cons.mpr ⟨rfl, List.forall_mem_cons.mpr ⟨rfl, fun _ h => absurd h List.not_mem_nil⟩⟩) (Nat.le_of_ble_eq_true rfl) rfl ?_
  refine r_aload_n (q := 1) dX10_does_0 rfl rfl rfl ?_
  refine r_getfield (q := 4) dX10_does_1 f_X10_does_60 md_g0 rfl rfl ?_
  refine r_iconst (q := 5) (v := 3) dX10_does_4 rfl rfl ?_
  refine r_iload_n (q := 6) dX10_does_5 rfl rfl rfl ?_
  refine r_imul (q := 7) dX10_does_6 rfl ?_
  refine r_iconst (q := 8) (v := 1) dX10_does_7 rfl rfl ?_
  refine r_iadd (q := 9) dX10_does_8 rfl ?_
  rw [show (3 : Int32) * nI k + 1 = nI (3 * k + 1) from by rw [show (3 : Int32) * nI k = nI (3 * k) from nI_mul 3 k]; exact nI_1 _]
  refine r_iaload (q := 10) dX10_does_9 md_g9 (vp_in_nI (by omega) (by decide)) rfl ?_
  rw [nI_cl (by omega)]
  refine r_istore_n (q := 11) dX10_does_10 rfl (Nat.le_of_ble_eq_true rfl) (xone_of rfl) rfl ?_
  refine r_aload_n (q := 12) dX10_does_11 rfl rfl rfl ?_
  refine r_getfield (q := 15) dX10_does_12 f_X10_does_60 md_g0 rfl rfl ?_
  refine r_iconst (q := 16) (v := 3) dX10_does_15 rfl rfl ?_
  refine r_iload_n (q := 17) dX10_does_16 rfl rfl rfl ?_
  refine r_imul (q := 18) dX10_does_17 rfl ?_
  refine r_iconst (q := 19) (v := 2) dX10_does_18 rfl rfl ?_
  refine r_iadd (q := 20) dX10_does_19 rfl ?_
  rw [show (3 : Int32) * nI k + 2 = nI (3 * k + 2) from by rw [show (3 : Int32) * nI k = nI (3 * k) from nI_mul 3 k]; exact nI_add _ 2]
  refine r_iaload (q := 21) dX10_does_20 md_g9 (vp_in_nI (by omega) (by decide)) rfl ?_
  rw [nI_cl (by omega)]
  refine r_istore_n (q := 22) dX10_does_21 rfl (Nat.le_of_ble_eq_true rfl) (xone_of rfl) rfl ?_
  refine r_aload_n (q := 23) dX10_does_22 rfl rfl rfl ?_
  refine r_getfield (q := 26) dX10_does_23 f_X10_does_60 md_g0 rfl rfl ?_
  refine r_iconst (q := 27) (v := 3) dX10_does_26 rfl rfl ?_
  refine r_iload_n (q := 28) dX10_does_27 rfl rfl rfl ?_
  refine r_imul (q := 29) dX10_does_28 rfl ?_
  rw [show (3 : Int32) * nI k = nI (3 * k) from nI_mul 3 k]
  refine r_iaload (q := 30) dX10_does_29 md_g9 (vp_in_nI (by omega) (by decide)) rfl ?_
  rw [nI_cl (by omega)]
  rw [ec]
  unfold mDk at hp
  rw [ec, nI_cl (by omega)] at hp
  unfold mDo at hp
  by_cases e0 : c = 0
  · rw [if_pos e0] at hp
    subst e0
    refine r_tableIn (off := 46) (q := 76) dX10_does_30 (by decide) (by decide) (by decide) (by decide) ?_
    refine r_aload_n (q := 77) dX10_does_76 rfl rfl rfl ?_
    refine r_iload_n (q := 78) dX10_does_77 rfl rfl rfl ?_
    refine r_iload_n (q := 79) dX10_does_78 rfl rfl rfl ?_
    refine r_callV (q := 82) (ci := 12) (As := [_, _]) dX10_does_79 s_X10_does_140 md_g0 rfl rfl rfl (Nat.le_of_ble_eq_true rfl) rfl rfl rfl (Nat.le_of_ble_eq_true rfl) (Nat.le_of_ble_eq_true rfl) ⟨(Nat.le_of_ble_eq_true rfl), (Nat.le_of_ble_eq_true rfl)⟩ rfl ?_
    refine ct_X10_doOut h1 ?_
    show WF _ E Po _ _ _ _ _ _ _
    refine r_istore (q := 84) dX10_does_82 (Nat.le_of_ble_eq_true rfl) (xone_of rfl) rfl ?_
    refine r_goto (q := 166) dX10_does_84 (by decide) ?_
    refine r_vret dX10_does_166 rfl (Nat.le_of_ble_eq_true rfl) (Nat.le_of_ble_eq_true rfl) ?_
    exact hp
  rw [if_neg e0] at hp
  by_cases e1 : c = 1
  · rw [if_pos e1] at hp
    subst e1
    refine r_tableIn (off := 57) (q := 87) dX10_does_30 (by decide) (by decide) (by decide) (by decide) ?_
    refine r_aload_n (q := 88) dX10_does_87 rfl rfl rfl ?_
    refine r_iload_n (q := 89) dX10_does_88 rfl rfl rfl ?_
    refine r_callV (q := 92) (ci := 12) (As := [_]) dX10_does_89 s_X10_does_143 md_g0 rfl rfl rfl (Nat.le_of_ble_eq_true rfl) rfl rfl rfl (Nat.le_of_ble_eq_true rfl) (Nat.le_of_ble_eq_true rfl) ⟨(Nat.le_of_ble_eq_true rfl), (Nat.le_of_ble_eq_true rfl)⟩ rfl ?_
    refine ct_X10_doBack h1 ?_
    show WF _ E Po _ _ _ _ _ _ _
    refine r_istore (q := 94) dX10_does_92 (Nat.le_of_ble_eq_true rfl) (xone_of rfl) rfl ?_
    refine r_goto (q := 166) dX10_does_94 (by decide) ?_
    refine r_vret dX10_does_166 rfl (Nat.le_of_ble_eq_true rfl) (Nat.le_of_ble_eq_true rfl) ?_
    exact hp
  rw [if_neg e1] at hp
  by_cases e2 : c = 2
  · rw [if_pos e2] at hp
    subst e2
    refine r_tableIn (off := 67) (q := 97) dX10_does_30 (by decide) (by decide) (by decide) (by decide) ?_
    refine r_aload_n (q := 98) dX10_does_97 rfl rfl rfl ?_
    refine r_iload_n (q := 99) dX10_does_98 rfl rfl rfl ?_
    refine r_iload_n (q := 100) dX10_does_99 rfl rfl rfl ?_
    refine r_callV (q := 103) (ci := 12) (As := [_, _]) dX10_does_100 s_X10_does_158 md_g0 rfl rfl rfl (Nat.le_of_ble_eq_true rfl) rfl rfl rfl (Nat.le_of_ble_eq_true rfl) (Nat.le_of_ble_eq_true rfl) ⟨(Nat.le_of_ble_eq_true rfl), (Nat.le_of_ble_eq_true rfl)⟩ rfl ?_
    refine ct_X10_doHeat h1 ?_
    show WF _ E Po _ _ _ _ _ _ _
    refine r_istore (q := 105) dX10_does_103 (Nat.le_of_ble_eq_true rfl) (xone_of rfl) rfl ?_
    refine r_goto (q := 166) dX10_does_105 (by decide) ?_
    refine r_vret dX10_does_166 rfl (Nat.le_of_ble_eq_true rfl) (Nat.le_of_ble_eq_true rfl) ?_
    exact hp
  rw [if_neg e2] at hp
  by_cases e3 : c = 3
  · rw [if_pos e3] at hp
    subst e3
    refine r_tableIn (off := 78) (q := 108) dX10_does_30 (by decide) (by decide) (by decide) (by decide) ?_
    refine r_aload_n (q := 109) dX10_does_108 rfl rfl rfl ?_
    refine r_iload_n (q := 110) dX10_does_109 rfl rfl rfl ?_
    refine r_callV (q := 113) (ci := 12) (As := [_]) dX10_does_110 s_X10_does_161 md_g0 rfl rfl rfl (Nat.le_of_ble_eq_true rfl) rfl rfl rfl (Nat.le_of_ble_eq_true rfl) (Nat.le_of_ble_eq_true rfl) ⟨(Nat.le_of_ble_eq_true rfl), (Nat.le_of_ble_eq_true rfl)⟩ rfl ?_
    refine ct_X10_doCold h1 ?_
    show WF _ E Po _ _ _ _ _ _ _
    refine r_istore (q := 115) dX10_does_113 (Nat.le_of_ble_eq_true rfl) (xone_of rfl) rfl ?_
    refine r_goto (q := 166) dX10_does_115 (by decide) ?_
    refine r_vret dX10_does_166 rfl (Nat.le_of_ble_eq_true rfl) (Nat.le_of_ble_eq_true rfl) ?_
    exact hp
  rw [if_neg e3] at hp
  by_cases e4 : c = 4
  · rw [if_pos e4] at hp
    subst e4
    refine r_tableIn (off := 88) (q := 118) dX10_does_30 (by decide) (by decide) (by decide) (by decide) ?_
    refine r_aload_n (q := 119) dX10_does_118 rfl rfl rfl ?_
    refine r_iload_n (q := 120) dX10_does_119 rfl rfl rfl ?_
    refine r_callV (q := 123) (ci := 12) (As := [_]) dX10_does_120 s_X10_does_146 md_g0 rfl rfl rfl (Nat.le_of_ble_eq_true rfl) rfl rfl rfl (Nat.le_of_ble_eq_true rfl) (Nat.le_of_ble_eq_true rfl) ⟨(Nat.le_of_ble_eq_true rfl), (Nat.le_of_ble_eq_true rfl)⟩ rfl ?_
    refine ct_X10_doJoin h1 ?_
    show WF _ E Po _ _ _ _ _ _ _
    refine r_istore (q := 125) dX10_does_123 (Nat.le_of_ble_eq_true rfl) (xone_of rfl) rfl ?_
    refine r_goto (q := 166) dX10_does_125 (by decide) ?_
    refine r_vret dX10_does_166 rfl (Nat.le_of_ble_eq_true rfl) (Nat.le_of_ble_eq_true rfl) ?_
    exact hp
  rw [if_neg e4] at hp
  by_cases e5 : c = 5
  · rw [if_pos e5] at hp
    subst e5
    refine r_tableIn (off := 98) (q := 128) dX10_does_30 (by decide) (by decide) (by decide) (by decide) ?_
    refine r_aload_n (q := 129) dX10_does_128 rfl rfl rfl ?_
    refine r_iload_n (q := 130) dX10_does_129 rfl rfl rfl ?_
    refine r_iload_n (q := 131) dX10_does_130 rfl rfl rfl ?_
    refine r_callV (q := 134) (ci := 12) (As := [_, _]) dX10_does_131 s_X10_does_128 md_g0 rfl rfl rfl (Nat.le_of_ble_eq_true rfl) rfl rfl rfl (Nat.le_of_ble_eq_true rfl) (Nat.le_of_ble_eq_true rfl) ⟨(Nat.le_of_ble_eq_true rfl), (Nat.le_of_ble_eq_true rfl)⟩ rfl ?_
    refine ct_X10_doMend h1 ?_
    show WF _ E Po _ _ _ _ _ _ _
    refine r_istore (q := 136) dX10_does_134 (Nat.le_of_ble_eq_true rfl) (xone_of rfl) rfl ?_
    refine r_goto (q := 166) dX10_does_136 (by decide) ?_
    refine r_vret dX10_does_166 rfl (Nat.le_of_ble_eq_true rfl) (Nat.le_of_ble_eq_true rfl) ?_
    exact hp
  rw [if_neg e5] at hp
  by_cases e6 : c = 6
  · rw [if_pos e6] at hp
    subst e6
    refine r_tableIn (off := 109) (q := 139) dX10_does_30 (by decide) (by decide) (by decide) (by decide) ?_
    refine r_aload_n (q := 140) dX10_does_139 rfl rfl rfl ?_
    refine r_iload_n (q := 141) dX10_does_140 rfl rfl rfl ?_
    refine r_callV (q := 144) (ci := 12) (As := [_]) dX10_does_141 s_X10_does_169 md_g0 rfl rfl rfl (Nat.le_of_ble_eq_true rfl) rfl rfl rfl (Nat.le_of_ble_eq_true rfl) (Nat.le_of_ble_eq_true rfl) ⟨(Nat.le_of_ble_eq_true rfl), (Nat.le_of_ble_eq_true rfl)⟩ rfl ?_
    refine ct_X10_doWash trivial ?_
    show WF _ E Po _ _ _ _ _ _ _
    refine r_istore (q := 146) dX10_does_144 (Nat.le_of_ble_eq_true rfl) (xone_of rfl) rfl ?_
    refine r_goto (q := 166) dX10_does_146 (by decide) ?_
    refine r_vret dX10_does_166 rfl (Nat.le_of_ble_eq_true rfl) (Nat.le_of_ble_eq_true rfl) ?_
    exact hp
  rw [if_neg e6] at hp
  by_cases e7 : c = 7
  · rw [if_pos e7] at hp
    subst e7
    refine r_tableIn (off := 119) (q := 149) dX10_does_30 (by decide) (by decide) (by decide) (by decide) ?_
    refine r_aload_n (q := 150) dX10_does_149 rfl rfl rfl ?_
    refine r_iload_n (q := 151) dX10_does_150 rfl rfl rfl ?_
    refine r_callV (q := 154) (ci := 12) (As := [_]) dX10_does_151 s_X10_does_172 md_g0 rfl rfl rfl (Nat.le_of_ble_eq_true rfl) rfl rfl rfl (Nat.le_of_ble_eq_true rfl) (Nat.le_of_ble_eq_true rfl) ⟨(Nat.le_of_ble_eq_true rfl), (Nat.le_of_ble_eq_true rfl)⟩ rfl ?_
    refine ct_X10_doSoap trivial ?_
    show WF _ E Po _ _ _ _ _ _ _
    refine r_istore (q := 156) dX10_does_154 (Nat.le_of_ble_eq_true rfl) (xone_of rfl) rfl ?_
    refine r_goto (q := 166) dX10_does_156 (by decide) ?_
    refine r_vret dX10_does_166 rfl (Nat.le_of_ble_eq_true rfl) (Nat.le_of_ble_eq_true rfl) ?_
    exact hp
  rw [if_neg e7] at hp
  obtain rfl : c = 8 := by omega
  refine r_tableOut (q := 159) dX10_does_30 (Or.inr (by decide)) (by decide) ?_
  refine r_aload_n (q := 160) dX10_does_159 rfl rfl rfl ?_
  refine r_iload_n (q := 161) dX10_does_160 rfl rfl rfl ?_
  refine r_callV (q := 164) (ci := 12) (As := [_]) dX10_does_161 s_X10_does_189 md_g0 rfl rfl rfl (Nat.le_of_ble_eq_true rfl) rfl rfl rfl (Nat.le_of_ble_eq_true rfl) (Nat.le_of_ble_eq_true rfl) ⟨(Nat.le_of_ble_eq_true rfl), (Nat.le_of_ble_eq_true rfl)⟩ rfl ?_
  refine ct_X10_doPass h2 ?_
  show WF _ E Po _ _ _ _ _ _ _
  refine r_istore (q := 166) dX10_does_164 (Nat.le_of_ble_eq_true rfl) (xone_of rfl) rfl ?_
  refine r_vret dX10_does_166 rfl (Nat.le_of_ble_eq_true rfl) (Nat.le_of_ble_eq_true rfl) ?_
  exact hp
/-- what of the object is told of -/
def oK (o o2 : Nat → Int32) (pm th ln ft : Int32) : Prop := o2 0 = o 0 ∧ o2 6 = o 6 ∧ o2 1 = pm ∧ o2 2 = th ∧ o2 7 = ln ∧ o2 10 = ft
set_option maxRecDepth 100000 in
set_option maxHeartbeats 4000000 in
theorem lp_X10_runE {E : xE} {Po : xPo} {w0 w : xW} {m : Nat} {r : mRs} {o o5 : Nat → Int32} {t : mTx} {c : xCo} {k n9c : Nat} {l2 : Option Value} (a1 : ∀ i, i ≠ 5 → i ≠ 2 → o5 i = o i) (hn : n9c ≤ 8) (h1 : o 1 = nI n9c) (hq2 : ∀ o2, oK o o2 (nI n9c) 2 (o 7) (o 10) → Po (.inl (some (.int 0))) (md E w m (cpS c r.1) r o2 t)) (n9 : Nat) : ∀ (z : Nat) (hn9 : 0 < n9), WF M_X10_read E Po w0 150 [some (.ref m), some (.int (nI k)), l2] [.int 0] (md E w m c r o5 t) 0 0 := by
  induction n9 with
  | zero => intro z  hn9; exact absurd hn9 (Nat.not_lt_zero _)
  | succ n9 ih =>
    intro z  hn9
    refine r_istore_n (q := 151) dX10_read_150 rfl (Nat.le_of_ble_eq_true rfl) (xone_of rfl) rfl ?_
    refine r_aload_n (q := 152) dX10_read_151 rfl rfl rfl ?_
    refine r_iconst (q := 153) (v := 2) dX10_read_152 rfl rfl ?_
    refine r_putfield (q := 156) dX10_read_153 f_X10_read_63 md_g0 rfl rfl (by exact Nat.le_of_ble_eq_true rfl) rfl ?_
    refine WF.cw (md_po (i := 2)) ?_
    refine r_aload_n (q := 157) dX10_read_156 rfl rfl rfl ?_
    refine r_iconst (q := 158) (v := 0) dX10_read_157 rfl rfl ?_
    refine r_callV (q := 161) (ci := 12) (As := [_]) dX10_read_158 s_X10_read_116 md_g0 rfl rfl rfl (Nat.le_of_ble_eq_true rfl) rfl rfl rfl (Nat.le_of_ble_eq_true rfl) (Nat.le_of_ble_eq_true rfl) ⟨(Nat.le_of_ble_eq_true rfl), (Nat.le_of_ble_eq_true rfl)⟩ rfl ?_
    refine ct_X10_ends (n := n9c) hn ((upd_o (by decide)).trans ((a1 1 (by decide) (by decide)).trans h1)) ?_
    rw [if_neg (show ¬ upd o5 2 2 2 ≤ 0 from (by decide : ¬ (2 : Int32) ≤ 0))]
    show WF _ E Po _ _ _ _ _ _ _
    refine r_iret dX10_read_161 rfl (Nat.le_of_ble_eq_true rfl) (Nat.le_of_ble_eq_true rfl) ?_
    exact hq2 _ ⟨(upd_o (by decide)).trans (a1 0 (by decide) (by decide)), (upd_o (by decide)).trans (a1 6 (by decide) (by decide)), (upd_o (by decide)).trans ((a1 1 (by decide) (by decide)).trans h1), upd_s, (upd_o (by decide)).trans (a1 7 (by decide) (by decide)), (upd_o (by decide)).trans (a1 10 (by decide) (by decide))⟩
set_option maxRecDepth 100000 in
set_option maxHeartbeats 4000000 in
theorem lp_X10_runF {E : xE} {Po : xPo} {w0 w : xW} {m : Nat} {r : mRs} {o o3 o5 : Nat → Int32} {t : mTx} {c : xCo} {k n9c : Nat} {v : Int32} {l2 : Option Value} (hv : ¬ v ≤ 0) (hn : n9c ≤ 8) (h1 : o 1 = nI n9c) (ho : ∀ i, i ≠ 5 → o3 i = o i) (hp : (o5 = upd (upd (upd o3 5 0) 2 v) 5 1 ∧ ∀ o2, oK o o2 (nI n9c) 2 (o 7) (o 10) → Po (.inl (some (.int 0))) (md E w m (cpS c r.1) r o2 t)) ∨ (o5 = upd (upd o3 5 0) 2 v ∧ ∀ o2, oK o o2 (nI n9c) 2 (o 7) (o 10) → Po (.inl (some (.int 0))) (md E w m (cpS (cR c 20 (nI k)) r.1) r o2 t))) (n9 : Nat) : ∀ (z : Nat) (hn9 : 0 < n9), WF M_X10_read E Po w0 124 [some (.ref m), some (.int (nI k)), l2] [] (md E w m c r o5 t) 0 0 := by
  induction n9 with
  | zero => intro z  hn9; exact absurd hn9 (Nat.not_lt_zero _)
  | succ n9 ih =>
    intro z  hn9
    have a2 : o5 2 = v := by rcases hp with ⟨rfl, -⟩ | ⟨rfl, -⟩ <;> rfl
    have a1 : ∀ i, i ≠ 5 → i ≠ 2 → o5 i = o i := by
      intro i i5 i2
      rcases hp with ⟨rfl, -⟩ | ⟨rfl, -⟩
      · rw [upd_o i5, upd_o i2, upd_o i5]; exact ho i i5
      · rw [upd_o i2, upd_o i5]; exact ho i i5
    refine r_aload_n (q := 125) dX10_read_124 rfl rfl rfl ?_
    refine r_getfield (q := 128) dX10_read_125 f_X10_read_63 md_g0 rfl rfl ?_
    rw [a2]
    refine r_if_le (q := 162) (q2 := 131) dX10_read_128 (by decide) rfl (fun h9 => absurd h9 hv) (fun _ => ?_)
    refine r_aload_n (q := 132) dX10_read_131 rfl rfl rfl ?_
    refine r_getfield (q := 135) dX10_read_132 f_X10_read_81 md_g0 rfl rfl ?_
    rcases hp with ⟨rfl, hq2⟩ | ⟨rfl, hq2⟩
    · refine r_if_eq (q := 142) (q2 := 138) dX10_read_135 (by decide) rfl (fun h9 => absurd h9 (show ¬ (1 : Int32) = 0 by decide)) (fun _ => ?_)
      refine r_iconst (q := 139) (v := 0) dX10_read_138 rfl rfl ?_
      refine r_goto (q := 150) dX10_read_139 (by decide) ?_
      exact lp_X10_runE a1 hn h1 hq2 1 0 (by decide)
    · have h5 : upd (upd o3 5 0) 2 v 5 = 0 := rfl
      rw [h5]
      refine r_if_eq (q := 142) (q2 := 138) dX10_read_135 (by decide) rfl (fun _ => ?_) (fun h9 => absurd rfl h9)
      refine r_aload_n (q := 143) dX10_read_142 rfl rfl rfl ?_
      refine r_iconst (q := 144) (v := 2) dX10_read_143 rfl rfl ?_
      refine r_bipush (q := 146) (v := 20) dX10_read_144 (by decide) rfl ?_
      refine r_iload_n (q := 147) dX10_read_146 rfl rfl rfl ?_
      refine r_callV (q := 150) (ci := 12) (As := [_, _, _]) dX10_read_147 s_X10_read_108 md_g0 rfl rfl rfl (Nat.le_of_ble_eq_true rfl) rfl rfl rfl (Nat.le_of_ble_eq_true rfl) (Nat.le_of_ble_eq_true rfl) ⟨(Nat.le_of_ble_eq_true rfl), (Nat.le_of_ble_eq_true rfl)⟩ rfl ?_
      refine ct_X10_refuse ?_
      show WF _ E Po _ _ _ _ _ _ _
      exact lp_X10_runE (fun i i5 i2 => by rw [upd_o i5, upd_o i2]; exact a1 i i5 i2) hn h1 hq2 1 0 (by decide)
    
set_option maxRecDepth 100000 in
set_option maxHeartbeats 4000000 in
theorem lp_X10_run0 {E : xE} {Po : xPo} {w0 w : xW} {m : Nat} {r : mRs} {o o3 : Nat → Int32} {t : mTx} {c : xCo} {k : Nat} {l2 : Option Value} (kx : ∀ o4, (∀ i, i ≠ 5 → o4 i = o i) → WF M_X10_read E Po w0 106 [some (.ref m), some (.int (nI (k + 1))), l2] [] (md E w m c r o4 t) 0 0) (ho : ∀ i, i ≠ 5 → o3 i = o i) (h2 : o 2 = 0) (n9 : Nat) : ∀ (z : Nat) (hn9 : 0 < n9), WF M_X10_read E Po w0 124 [some (.ref m), some (.int (nI k)), l2] [] (md E w m c r (upd o3 5 0) t) 0 0 := by
  induction n9 with
  | zero => intro z  hn9; exact absurd hn9 (Nat.not_lt_zero _)
  | succ n9 ih =>
    intro z  hn9
    refine r_aload_n (q := 125) dX10_read_124 rfl rfl rfl ?_
    refine r_getfield (q := 128) dX10_read_125 f_X10_read_63 md_g0 rfl rfl ?_
    rw [show upd o3 5 0 2 = 0 from (ho 2 (by decide)).trans h2]
    refine r_if_le (q := 162) (q2 := 131) dX10_read_128 (by decide) rfl (fun _ => ?_) (fun h9 => absurd (by decide) h9)
    refine r_iinc (q := 165) dX10_read_162 rfl (Nat.le_of_ble_eq_true rfl) (xone_of rfl) rfl ?_
    rw [show nI k + Int32.ofInt 1 = nI (k + 1) from nI_1 k]
    refine r_goto (q := 106) dX10_read_165 (by decide) ?_
    exact kx _ (fun i hi => (upd_o hi).trans (ho i hi))
set_option maxRecDepth 100000 in
set_option maxHeartbeats 4000000 in
theorem lp_X10_run {E : xE} {Po : xPo} {w0 w : xW} {m : Nat} {d0 : xCo} {r : mRs} {o : Nat → Int32} {t : mTx} {n9c K N : Nat} (hK : K < 50) (hC : okC t.2.2 K) (h11 : o 11 = nI K) (h2 : o 2 = 0) (hn : n9c ≤ 8) (h1 : o 1 = nI n9c) (hr : r.1 = d0) (hp : if (runM t.2.2 K 0 d0).1 = true then ∀ o2, oK o o2 (nI (cnt1 n9c)) 0 (o 7) (o 10) → Po (.inl (some (.int (nI K)))) (md E w m (runM t.2.2 K 0 d0).2 (r.1, r.2.1, r.2.2.1, pPush n9c r.2.2.2 r.1) o2 t) else ∀ o2, oK o o2 (nI n9c) 2 (o 7) (o 10) → Po (.inl (some (.int 0))) (md E w m (cpS (runM t.2.2 K 0 d0).2 r.1) r o2 t)) (n9 : Nat) : ∀ (z k : Nat) (c : xCo) (o3 : Nat → Int32) (l2 : Option Value) (hz : k + z = K) (ho : ∀ i, i ≠ 5 → o3 i = o i) (hR : okR N t.2.2 z k c) (hk : runM t.2.2 z k c = runM t.2.2 K 0 d0) (hn9 : z < n9), WF M_X10_read E Po w0 106 [some (.ref m), some (.int (nI k)), l2] [] (md E w m c r o3 t) 0 0 := by
  induction n9 with
  | zero => intro z k c o3 l2 hz ho hR hk hn9; exact absurd hn9 (Nat.not_lt_zero _)
  | succ n9 ih =>
    intro z k c o3 l2 hz ho hR hk hn9
    refine r_iload_n (q := 107) dX10_read_106 rfl rfl rfl ?_
    refine r_aload_n (q := 108) dX10_read_107 rfl rfl rfl ?_
    refine r_getfield (q := 111) dX10_read_108 f_X10_read_267 md_g0 rfl rfl ?_
    rw [show o3 11 = nI K from (ho 11 (by decide)).trans h11]
    refine r_icmp_ge (q := 168) (q2 := 114) dX10_read_111 (by decide) rfl (fun h111 => ?_) (fun h111 => ?_)
    · obtain rfl : z = 0 := by have := (nI_leI (by omega) (by omega)).mp h111; omega
      have hk2 : (true, c) = runM t.2.2 K 0 d0 := hk
      rw [← hk2] at hp
      rw [if_pos rfl] at hp
      refine r_aload_n (q := 169) dX10_read_168 rfl rfl rfl ?_
      refine r_aload_n (q := 170) dX10_read_169 rfl rfl rfl ?_
      refine r_getfield (q := 173) dX10_read_170 f_X10_read_267 md_g0 rfl rfl ?_
      rw [show o3 11 = nI K from (ho 11 (by decide)).trans h11]
      refine r_callV (q := 176) (ci := 12) (As := [_]) dX10_read_173 s_X10_read_116 md_g0 rfl rfl rfl (Nat.le_of_ble_eq_true rfl) rfl rfl rfl (Nat.le_of_ble_eq_true rfl) (Nat.le_of_ble_eq_true rfl) ⟨(Nat.le_of_ble_eq_true rfl), (Nat.le_of_ble_eq_true rfl)⟩ rfl ?_
      refine ct_X10_ends (n := n9c) hn ((ho 1 (by decide)).trans h1) ?_
      rw [if_pos (show o3 2 ≤ 0 by rw [ho 2 (by decide), h2]; decide)]
      show WF _ E Po _ _ _ _ _ _ _
      refine r_iret dX10_read_176 rfl (Nat.le_of_ble_eq_true rfl) (Nat.le_of_ble_eq_true rfl) ?_
      exact hp _ ⟨(upd_o (by decide)).trans (ho 0 (by decide)), (upd_o (by decide)).trans (ho 6 (by decide)), upd_s, ((upd_o (by decide)).trans (ho 2 (by decide))).trans h2, (upd_o (by decide)).trans (ho 7 (by decide)), (upd_o (by decide)).trans (ho 10 (by decide))⟩
    · have hkK : k < K := by
        have : ¬ K ≤ k := fun q => h111 ((nI_leI (by omega) (by omega)).mpr q)
        omega
      obtain ⟨z2, rfl⟩ : ∃ q, z = q + 1 := ⟨z - 1, by omega⟩
      obtain ⟨i1, ⟨N2, i2⟩, i3⟩ := hR
      obtain ⟨q, hq, eq⟩ := hC k hkK
      refine r_aload_n (q := 115) dX10_read_114 rfl rfl rfl ?_
      refine r_iconst (q := 116) (v := 0) dX10_read_115 rfl rfl ?_
      refine r_putfield (q := 119) dX10_read_116 f_X10_read_81 md_g0 rfl rfl (by exact Nat.le_of_ble_eq_true rfl) rfl ?_
      refine WF.cw (md_po (i := 5)) ?_
      refine r_aload_n (q := 120) dX10_read_119 rfl rfl rfl ?_
      refine r_iload_n (q := 121) dX10_read_120 rfl rfl rfl ?_
      refine r_callV (q := 124) (ci := 12) (As := [_]) dX10_read_121 s_X10_read_276 md_g0 rfl rfl rfl (Nat.le_of_ble_eq_true rfl) rfl rfl rfl (Nat.le_of_ble_eq_true rfl) (Nat.le_of_ble_eq_true rfl) ⟨(Nat.le_of_ble_eq_true rfl), (Nat.le_of_ble_eq_true rfl)⟩ rfl ?_
      refine ct_X10_does (by omega) hq eq i1 i2 ?_
      show WF _ E Po _ _ _ _ _ _ _
      rw [runM] at hk
      rcases mDo_tag (d := c) (c := (t.2.2 (3 * k)).toNatClampNeg) (a := t.2.2 (3 * k + 1)) (b := t.2.2 (3 * k + 2)) with e | e | e | e
      · have e : (mDk t.2.2 k c).1 = 0 := e
        rw [if_pos e] at hk
        rw [e, dO_0]
        exact lp_X10_run0 (fun o4 ho4 => ih z2 (k + 1) _ _ _ (by omega) ho4 (i3 e) hk (by omega)) ho h2 1 0 (by decide)
      · have e : (mDk t.2.2 k c).1 = -1 := e
        rw [if_neg (by rw [e]; decide), if_pos e] at hk
        rw [e, dO_1]
        rw [← hk] at hp
        rw [if_neg Bool.false_ne_true] at hp
        exact lp_X10_runF (v := 2) (by decide) hn h1 ho (Or.inl ⟨rfl, hp⟩) 1 0 (by decide)
      · have e : (mDk t.2.2 k c).1 = -2 := e
        rw [if_neg (by rw [e]; decide), if_neg (by rw [e]; decide)] at hk
        rw [e, dO_2]
        rw [← hk] at hp
        rw [if_neg Bool.false_ne_true] at hp
        exact lp_X10_runF (v := 1) (by decide) hn h1 ho (Or.inr ⟨rfl, hp⟩) 1 0 (by decide)
      · have e : (mDk t.2.2 k c).1 = -3 := e
        rw [if_neg (by rw [e]; decide), if_neg (by rw [e]; decide)] at hk
        rw [e, dO_3]
        rw [← hk] at hp
        rw [if_neg Bool.false_ne_true] at hp
        exact lp_X10_runF (v := 1) (by decide) hn h1 ho (Or.inr ⟨rfl, hp⟩) 1 0 (by decide)
      
theorem rd_out {f : Nat → Int32} {n z : Nat} {s : mSt} (h : n ≤ s.1) : rdM f n z s = s := by
  cases z with
  | zero => rfl
  | succ z =>
    unfold rdM
    rw [if_neg (fun q => by have := q.2.1; omega)]
theorem rd_not {f : Nat → Int32} {n z : Nat} {s : mSt} (h : ¬ (s.2.1 = 0 ∧ hereS f n s.1 59 59)) : rdM f n z s = s := by
  cases z with
  | zero => rfl
  | succ z =>
    unfold rdM
    rw [if_neg h]
set_option maxRecDepth 100000 in
set_option maxHeartbeats 4000000 in
theorem lp_X10_readAll {E : xE} {Po : xPo} {w0 w : xW} {m : Nat} {d : xCo} {r : mRs} {o : Nat → Int32} {t : mTx} {n : Nat} {s9 : mSt} {l1 l2 : Option Value} (hn : n ≤ 60) (h7 : o 7 = nI n) (kx : s9.1 ≤ 80 → s9.2.2.1 ≤ 40 → WF M_X10_read E Po w0 47 [some (.ref m), l1, l2] [] (md E w m d r (oT o s9.1 s9.2.1 s9.2.2.1) (t.1, t.2.1, s9.2.2.2)) 0 0) (n9 : Nat) : ∀ (z : Nat) (s : mSt) (hz : n ≤ z + s.1) (hp8 : s.1 ≤ 80) (hk : 5 * s.2.2.1 ≤ s.1 + 1) (he : rdM t.2.1 n z s = s9) (hn9 : z < n9), WF M_X10_read E Po w0 19 [some (.ref m), l1, l2] [] (md E w m d r (oT o s.1 s.2.1 s.2.2.1) (t.1, t.2.1, s.2.2.2)) 0 0 := by
  induction n9 with
  | zero => intro z s hz hp8 hk he hn9; exact absurd hn9 (Nat.not_lt_zero _)
  | succ n9 ih =>
    intro z s hz hp8 hk he hn9
    refine r_aload_n (q := 20) dX10_read_19 rfl rfl rfl ?_
    refine r_bipush (q := 22) (v := 59) dX10_read_20 (by decide) rfl ?_
    refine r_bipush (q := 24) (v := 59) dX10_read_22 (by decide) rfl ?_
    refine r_callV (q := 27) (ci := 12) (As := [_, _]) dX10_read_24 s_X10_read_252 md_g0 rfl rfl rfl (Nat.le_of_ble_eq_true rfl) rfl rfl rfl (Nat.le_of_ble_eq_true rfl) (Nat.le_of_ble_eq_true rfl) ⟨(Nat.le_of_ble_eq_true rfl), (Nat.le_of_ble_eq_true rfl)⟩ rfl ?_
    refine ct_X10_isHere (t := (t.1, t.2.1, s.2.2.2)) hn (by omega) h7 ?_
    rcases Classical.em (s.2.1 = 0 ∧ hereS t.2.1 n s.1 59 59) with e | e
    · rw [if_pos e]
      show WF _ E Po _ _ _ _ _ _ _
      obtain ⟨z2, rfl⟩ : ∃ q, z = q + 1 := ⟨z - 1, by have := e.2.1; omega⟩
      rw [rdM, if_pos e] at he
      have hpn := e.2.1
      have g := rcM_ok (f := t.2.1) (n := n) (p := s.1 + 1) (k := s.2.2.1) (com := s.2.2.2)
      refine r_if_eq (q := 47) (q2 := 30) dX10_read_27 (by decide) rfl (fun h9 => absurd h9 (by decide)) (fun _ => ?_)
      refine r_aload_n (q := 31) dX10_read_30 rfl rfl rfl ?_
      refine r_dup (q := 32) dX10_read_31 rfl rfl ?_
      refine r_getfield (q := 35) dX10_read_32 f_X10_read_249 md_g0 rfl rfl ?_
      refine r_iconst (q := 36) (v := 1) dX10_read_35 rfl rfl ?_
      refine r_iadd (q := 37) dX10_read_36 rfl ?_
      refine r_putfield (q := 40) dX10_read_37 f_X10_read_249 md_g0 rfl rfl (by exact Nat.le_of_ble_eq_true rfl) rfl ?_
      refine WF.cw (md_po (i := 8) (o := oT o s.1 s.2.1 s.2.2.1) (v := oT o s.1 s.2.1 s.2.2.1 8 + 1)) ?_
      rw [show oT o s.1 s.2.1 s.2.2.1 8 + 1 = nI (s.1 + 1) from nI_1 _, oT_8]
      refine r_aload_n (q := 41) dX10_read_40 rfl rfl rfl ?_
      refine r_callV (q := 44) (ci := 12) (As := []) dX10_read_41 s_X10_read_273 md_g0 rfl rfl rfl (Nat.le_of_ble_eq_true rfl) rfl rfl rfl (Nat.le_of_ble_eq_true rfl) (Nat.le_of_ble_eq_true rfl) ⟨(Nat.le_of_ble_eq_true rfl), (Nat.le_of_ble_eq_true rfl)⟩ rfl ?_
      refine ct_X10_readCommand (t := (t.1, t.2.1, s.2.2.2)) hn (by omega) h7 (by omega) ?_
      show WF _ E Po _ _ _ _ _ _ _
      refine r_goto (q := 19) dX10_read_44 (by decide) ?_
      exact ih z2 (rcM t.2.1 n (s.1 + 1) s.2.2.1 s.2.2.2) (by omega) (by omega) (by rcases g.2.2 with g | g <;> omega) he (by omega)
    · rw [if_neg e]
      show WF _ E Po _ _ _ _ _ _ _
      rw [rd_not e] at he
      subst he
      refine r_if_eq (q := 47) (q2 := 30) dX10_read_27 (by decide) rfl (fun _ => ?_) (fun h9 => absurd rfl h9)
      exact kx hp8 (by omega)
set_option maxRecDepth 100000 in
set_option maxHeartbeats 4000000 in
theorem lp_X10_readBad {E : xE} {Po : xPo} {w0 w : xW} {m : Nat} {d : xCo} {r : mRs} {o : Nat → Int32} {t : mTx} {p n9c k : Nat} {wr : Int32} {l1 l2 : Option Value} (h1 : o 1 = nI n9c) (hp : ∀ o2, oK o o2 (nI n9c) 1 0 (nI p) → Po (.inl (some (.int 0))) (md E w m d r o2 t)) (n9 : Nat) : ∀ (z : Nat) (hn9 : 0 < n9), WF M_X10_read E Po w0 71 [some (.ref m), l1, l2] [.int 1, .ref m] (md E w m d r (oT o p wr k) t) 0 0 := by
  induction n9 with
  | zero => intro z  hn9; exact absurd hn9 (Nat.not_lt_zero _)
  | succ n9 ih =>
    intro z  hn9
    refine r_putfield (q := 74) dX10_read_71 f_X10_read_246 md_g0 rfl rfl (by exact Nat.le_of_ble_eq_true rfl) rfl ?_
    refine WF.cw (md_po (i := 9)) ?_
    rw [oT_9]
    refine r_aload_n (q := 75) dX10_read_74 rfl rfl rfl ?_
    refine r_iconst (q := 76) (v := 0) dX10_read_75 rfl rfl ?_
    refine r_putfield (q := 79) dX10_read_76 f_X10_read_244 md_g0 rfl rfl (by exact Nat.le_of_ble_eq_true rfl) rfl ?_
    refine WF.cw (md_po (i := 7)) ?_
    refine r_aload_n (q := 80) dX10_read_79 rfl rfl rfl ?_
    refine r_getfield (q := 83) dX10_read_80 f_X10_read_246 md_g0 rfl rfl ?_
    refine r_if_eq (q := 100) (q2 := 86) dX10_read_83 (by decide) rfl (fun h9 => absurd h9 (show ¬ (1 : Int32) = 0 by decide)) (fun _ => ?_)
    refine r_aload_n (q := 87) dX10_read_86 rfl rfl rfl ?_
    refine r_aload_n (q := 88) dX10_read_87 rfl rfl rfl ?_
    refine r_getfield (q := 91) dX10_read_88 f_X10_read_249 md_g0 rfl rfl ?_
    refine r_putfield (q := 94) dX10_read_91 f_X10_read_56 md_g0 rfl rfl (by exact Nat.le_of_ble_eq_true rfl) rfl ?_
    refine WF.cw (md_po (i := 10) (o := upd (oT o p 1 k) 7 0) (v := nI p)) ?_
    refine r_aload_n (q := 95) dX10_read_94 rfl rfl rfl ?_
    refine r_iconst (q := 96) (v := 1) dX10_read_95 rfl rfl ?_
    refine r_callV (q := 99) (ci := 12) (As := [_]) dX10_read_96 s_X10_read_104 md_g0 rfl rfl rfl (Nat.le_of_ble_eq_true rfl) rfl rfl rfl (Nat.le_of_ble_eq_true rfl) (Nat.le_of_ble_eq_true rfl) ⟨(Nat.le_of_ble_eq_true rfl), (Nat.le_of_ble_eq_true rfl)⟩ rfl ?_
    refine ct_X10_fails ?_
    show WF _ E Po _ _ _ _ _ _ _
    refine r_iret dX10_read_99 rfl (Nat.le_of_ble_eq_true rfl) (Nat.le_of_ble_eq_true rfl) ?_
    exact hp _ ⟨rfl, rfl, h1, rfl, rfl, rfl⟩
set_option maxRecDepth 100000 in
set_option maxHeartbeats 4000000 in
theorem lp_X10_readGood {E : xE} {Po : xPo} {w0 w : xW} {m : Nat} {d : xCo} {r : mRs} {o : Nat → Int32} {t : mTx} {p n9c K N : Nat} {l1 l2 : Option Value} (hK : K < 50) (hn : n9c ≤ 8) (h1 : o 1 = nI n9c) (hC : okC t.2.2 K) (hR : okR N t.2.2 K 0 d) (hp : if (runM t.2.2 K 0 d).1 = true then ∀ o2, oK o o2 (nI (cnt1 n9c)) 0 0 (o 10) → Po (.inl (some (.int (nI K)))) (md E w m (runM t.2.2 K 0 d).2 (d, r.2.1, r.2.2.1, pPush n9c r.2.2.2 d) o2 t) else ∀ o2, oK o o2 (nI n9c) 2 0 (o 10) → Po (.inl (some (.int 0))) (md E w m (cpS (runM t.2.2 K 0 d).2 d) (d, r.2) o2 t)) (n9 : Nat) : ∀ (z : Nat) (hn9 : 0 < n9), WF M_X10_read E Po w0 71 [some (.ref m), l1, l2] [.int 0, .ref m] (md E w m d r (oT o p 0 K) t) 0 0 := by
  induction n9 with
  | zero => intro z  hn9; exact absurd hn9 (Nat.not_lt_zero _)
  | succ n9 ih =>
    intro z  hn9
    refine r_putfield (q := 74) dX10_read_71 f_X10_read_246 md_g0 rfl rfl (by exact Nat.le_of_ble_eq_true rfl) rfl ?_
    refine WF.cw (md_po (i := 9)) ?_
    rw [oT_9]
    refine r_aload_n (q := 75) dX10_read_74 rfl rfl rfl ?_
    refine r_iconst (q := 76) (v := 0) dX10_read_75 rfl rfl ?_
    refine r_putfield (q := 79) dX10_read_76 f_X10_read_244 md_g0 rfl rfl (by exact Nat.le_of_ble_eq_true rfl) rfl ?_
    refine WF.cw (md_po (i := 7)) ?_
    refine r_aload_n (q := 80) dX10_read_79 rfl rfl rfl ?_
    refine r_getfield (q := 83) dX10_read_80 f_X10_read_246 md_g0 rfl rfl ?_
    refine r_if_eq (q := 100) (q2 := 86) dX10_read_83 (by decide) rfl (fun _ => ?_) (fun h9 => absurd rfl h9)
    refine r_aload_n (q := 101) dX10_read_100 rfl rfl rfl ?_
    refine r_callV (q := 104) (ci := 12) (As := []) dX10_read_101 s_X10_read_101 md_g0 rfl rfl rfl (Nat.le_of_ble_eq_true rfl) rfl rfl rfl (Nat.le_of_ble_eq_true rfl) (Nat.le_of_ble_eq_true rfl) ⟨(Nat.le_of_ble_eq_true rfl), (Nat.le_of_ble_eq_true rfl)⟩ rfl ?_
    refine ct_X10_keep ?_
    show WF _ E Po _ _ _ _ _ _ _
    refine r_iconst (q := 105) (v := 0) dX10_read_104 rfl rfl ?_
    refine r_istore_n (q := 106) dX10_read_105 rfl (Nat.le_of_ble_eq_true rfl) (xone_of rfl) rfl ?_
    exact lp_X10_run (N := N) (r := (d, r.2)) (o := upd (upd (oT o p 0 K) 7 0) 2 0) hK hC rfl rfl hn h1 rfl hp (K + 1) K 0 d _ _ (by omega) (fun _ _ => rfl) hR rfl (by omega)
set_option maxRecDepth 100000 in
set_option maxHeartbeats 4000000 in
theorem ct_X10_read {E : xE} {Po : xPo} {w : xW} {m : Nat} {d : xCo} {r : mRs} {o : Nat → Int32} {t : mTx} {n n9c N : Nat} (hn : n ≤ 60) (h7 : o 7 = nI n) (hn9 : n9c ≤ 8) (h1 : o 1 = nI n9c) (hp : if (rdM t.2.1 n 61 (rcM t.2.1 n 0 0 t.2.2)).2.1 = 0 ∧ n ≤ (rdM t.2.1 n 61 (rcM t.2.1 n 0 0 t.2.2)).1 then (okC (rdM t.2.1 n 61 (rcM t.2.1 n 0 0 t.2.2)).2.2.2 (rdM t.2.1 n 61 (rcM t.2.1 n 0 0 t.2.2)).2.2.1 ∧ okR N (rdM t.2.1 n 61 (rcM t.2.1 n 0 0 t.2.2)).2.2.2 (rdM t.2.1 n 61 (rcM t.2.1 n 0 0 t.2.2)).2.2.1 0 d ∧ (if (runM (rdM t.2.1 n 61 (rcM t.2.1 n 0 0 t.2.2)).2.2.2 (rdM t.2.1 n 61 (rcM t.2.1 n 0 0 t.2.2)).2.2.1 0 d).1 = true then ∀ o2, oK o o2 (nI (cnt1 n9c)) 0 0 (o 10) → Po (.inl (some (.int (nI (rdM t.2.1 n 61 (rcM t.2.1 n 0 0 t.2.2)).2.2.1)))) (md E w m (runM (rdM t.2.1 n 61 (rcM t.2.1 n 0 0 t.2.2)).2.2.2 (rdM t.2.1 n 61 (rcM t.2.1 n 0 0 t.2.2)).2.2.1 0 d).2 (d, r.2.1, r.2.2.1, pPush n9c r.2.2.2 d) o2 (t.1, t.2.1, (rdM t.2.1 n 61 (rcM t.2.1 n 0 0 t.2.2)).2.2.2)) else ∀ o2, oK o o2 (nI n9c) 2 0 (o 10) → Po (.inl (some (.int 0))) (md E w m (cpS (runM (rdM t.2.1 n 61 (rcM t.2.1 n 0 0 t.2.2)).2.2.2 (rdM t.2.1 n 61 (rcM t.2.1 n 0 0 t.2.2)).2.2.1 0 d).2 d) (d, r.2) o2 (t.1, t.2.1, (rdM t.2.1 n 61 (rcM t.2.1 n 0 0 t.2.2)).2.2.2)))) else ∀ o2, oK o o2 (nI n9c) 1 0 (nI (rdM t.2.1 n 61 (rcM t.2.1 n 0 0 t.2.2)).1) → Po (.inl (some (.int 0))) (md E w m d r o2 (t.1, t.2.1, (rdM t.2.1 n 61 (rcM t.2.1 n 0 0 t.2.2)).2.2.2))) : Ct M_X10_read E [.ref m] (md E w m d r o t) Po := by
  refine Ct.of (ws2 := xAll) (L := [some (.ref m), none, none]) (by decide +kernel) rfl rfl (List.forall_mem_cons.mpr ⟨rfl, fun _ h => absurd h List.not_mem_nil⟩) (Nat.le_of_ble_eq_true rfl) rfl ?_
  refine r_aload_n (q := 1) dX10_read_0 rfl rfl rfl ?_
  refine r_iconst (q := 2) (v := 0) dX10_read_1 rfl rfl ?_
  refine r_putfield (q := 5) dX10_read_2 f_X10_read_249 md_g0 rfl rfl (by exact Nat.le_of_ble_eq_true rfl) rfl ?_
  refine WF.cw (md_po (i := 8)) ?_
  refine r_aload_n (q := 6) dX10_read_5 rfl rfl rfl ?_
  refine r_iconst (q := 7) (v := 0) dX10_read_6 rfl rfl ?_
  refine r_putfield (q := 10) dX10_read_7 f_X10_read_246 md_g0 rfl rfl (by exact Nat.le_of_ble_eq_true rfl) rfl ?_
  refine WF.cw (md_po (i := 9)) ?_
  refine r_aload_n (q := 11) dX10_read_10 rfl rfl rfl ?_
  refine r_iconst (q := 12) (v := 0) dX10_read_11 rfl rfl ?_
  refine r_putfield (q := 15) dX10_read_12 f_X10_read_267 md_g0 rfl rfl (by exact Nat.le_of_ble_eq_true rfl) rfl ?_
  refine WF.cw (md_po (i := 11)) ?_
  rw [show upd (upd (upd o 8 0) 9 0) 11 0 = oT o 0 0 0 from oT_i]
  refine r_aload_n (q := 16) dX10_read_15 rfl rfl rfl ?_
  refine r_callV (q := 19) (ci := 12) (As := []) dX10_read_16 s_X10_read_273 md_g0 rfl rfl rfl (Nat.le_of_ble_eq_true rfl) rfl rfl rfl (Nat.le_of_ble_eq_true rfl) (Nat.le_of_ble_eq_true rfl) ⟨(Nat.le_of_ble_eq_true rfl), (Nat.le_of_ble_eq_true rfl)⟩ rfl ?_
  refine ct_X10_readCommand hn (by decide) h7 (by decide) ?_
  show WF _ E Po _ _ _ _ _ _ _
  have g := rcM_ok (f := t.2.1) (n := n) (p := 0) (k := 0) (com := t.2.2)
  generalize hs0 : rcM t.2.1 n 0 0 t.2.2 = s0 at hp g ⊢
  refine lp_X10_readAll (s9 := rdM t.2.1 n 61 s0) hn h7 (fun q1 q2 => ?_) 62 61 s0 (by omega) (by omega) (by rcases g.2.2 with g | g <;> omega) rfl (by decide)
  generalize rdM t.2.1 n 61 s0 = s9 at hp q1 q2 ⊢
  refine r_aload_n (q := 48) dX10_read_47 rfl rfl rfl ?_
  refine r_aload_n (q := 49) dX10_read_48 rfl rfl rfl ?_
  refine r_getfield (q := 52) dX10_read_49 f_X10_read_246 md_g0 rfl rfl ?_
  rw [show oT o s9.1 s9.2.1 s9.2.2.1 9 = s9.2.1 from rfl]
  refine r_if_ne (q := 66) (q2 := 55) dX10_read_52 (by decide) rfl (fun h52 => ?_) (fun h52 => ?_)
  · rw [if_neg (fun q => h52 q.1)] at hp
    refine r_iconst (q := 67) (v := 1) dX10_read_66 rfl rfl ?_
    refine r_goto (q := 71) dX10_read_67 (by decide) ?_
    exact lp_X10_readBad h1 hp 1 0 (by decide)
  · refine r_aload_n (q := 56) dX10_read_55 rfl rfl rfl ?_
    refine r_getfield (q := 59) dX10_read_56 f_X10_read_249 md_g0 rfl rfl ?_
    rw [show oT o s9.1 s9.2.1 s9.2.2.1 8 = nI s9.1 from rfl]
    refine r_aload_n (q := 60) dX10_read_59 rfl rfl rfl ?_
    refine r_getfield (q := 63) dX10_read_60 f_X10_read_244 md_g0 rfl rfl ?_
    rw [show oT o s9.1 s9.2.1 s9.2.2.1 7 = nI n from h7]
    refine r_icmp_ge (q := 70) (q2 := 66) dX10_read_63 (by decide) rfl (fun h63 => ?_) (fun h63 => ?_)
    · have hle : n ≤ s9.1 := (nI_leI (by omega) (by omega)).mp h63
      rw [if_pos ⟨h52, hle⟩] at hp
      refine r_iconst (q := 71) (v := 0) dX10_read_70 rfl rfl ?_
      rw [h52]
      exact lp_X10_readGood (N := N) (t := (t.1, t.2.1, s9.2.2.2)) (by omega) hn9 h1 hp.1 hp.2.1 hp.2.2 1 0 (by decide)
    · rw [if_neg (fun q => h63 ((nI_leI (by omega) (by omega)).mpr q.2))] at hp
      refine r_iconst (q := 67) (v := 1) dX10_read_66 rfl rfl ?_
      refine r_goto (q := 71) dX10_read_67 (by decide) ?_
      exact lp_X10_readBad h1 hp 1 0 (by decide)
