/-! ===== 44.mmake: the reference made (rows laid by wip/whole/gen/make44.py) ===== -/
/-- a String constant into a row of Strings -/
theorem r_aastoreK {M : xM} {E : xE} {Po : xPo} {w0 w : xW} {pc q : Nat} {L : List (Option Value)} {st : List Value} {k n : Nat} {a N v : Nat} {f : Nat → Option Nat} {i : Int32} (hd : decode (mC M) pc = .ok (.aastore, 1)) (hw : w.1 a = some (.inl (E.1.2 6, N, .inr (.inr (.inr (.inr f)))))) (hO : ∀ A U H, xC E A U H → va_O "java/lang/String" v A U H) (hin : vp_in i N) (hq : pc + 1 = q)
    (kk : WF M E Po w0 q L st (xset w a (.inl (E.1.2 6, N, .inr (.inr (.inr (.inr (va_up f i.toNatClampNeg (some v)))))))) k n) : WF M E Po w0 pc L (.ref v :: .int i :: .ref a :: st) w k n := by
  subst hq
  intro p l e s m args below meth c H locs ls C hP hs hS hl
  obtain ⟨c1, c2, c3, c4, c5, c6, c7, c8, c9, c10, c11, c12⟩ := id C
  have hK := c11.1
  have ha := hs a (xsome hw)
  have hlt : i.toNatClampNeg < N := Nat.not_le.mp fun q => hin (Or.inr q)
  have h0 : ¬ i < 0 := fun q => hin (Or.inl q)
  obtain ⟨cellV, g1, g3, g2, g4⟩ := (hO _ _ _ c11.2).kept hS.2.1
  have hcls := (hK.1 0 _ rfl).2
  obtain ⟨kA, comp, k1, k2, k3, -⟩ := (hK.2 6 (E.1.2 6, .object "java/lang/String") rfl).2
  have hcomp : comp = E.1.1.1 0 := Option.some.inj (k3.symm.trans hcls.1)
  subst hcomp
  have hcv : cellV.cls = E.1.1.1 0 := Option.some.inj (g2.symm.trans hcls.1)
  have hcl2 := hcls
  obtain ⟨kC, hkC, -⟩ := hcls.2
  refine W.aast c1 c2 (hP.1 a _ hw) (fun q h => by cases h) (fun h => by cases h) k1 k2 rfl hkC ⟨h0, by show _ < (arrV _ _ _).slots.size; rw [arrV_size]; exact hlt⟩ g1 (fun q h => by rw [h] at g3; cases g3) (by rw [hcv]; exact hkC) (by rw [hcv]; exact va_assign hcl2) rfl rfl hd fun H1 e9 z oq => ?_
  refine kk p l e s m args below meth c H1 _ ls C (hP.put ?_ oq z) (hs.put ha) (hS.put z oq ha) hl
  show H1[a]? = some (vp_cell _ _)
  rw [e9, vp_cell_q, vp_cell_q, arrV_store]
  congr 2
  funext j
  by_cases hj : j = i.toNatClampNeg
  · subst hj; simp [updV, va_up, va_rf]
  · simp [updV, va_up, hj]
def z0 : xCo := (fun _ => 0, fun _ _ => 0, fun _ _ => 0, fun _ _ => 0)
def d0 : xCo := (fun k => if k = 4 then 12 else if k = 6 then 10 else if k = 7 then 10 else 0, fun _ _ => 0, fun _ _ => 0, fun _ _ => 0)
def r0 : mRs := (z0, z0, z0, fun _ => z0)
def o0 : Nat → Int32 := fun i => if i = 10 then -1 else 0
def t0 : mTx := (fun _ => 0, fun _ => 0, fun _ => 0)
theorem flat_z0 : flat z0 = fun _ => 0 := by
  funext i
  unfold flat z0
  repeat' split
  all_goals rfl
theorem flatP_z0 : flatP (fun _ => z0) = fun _ => 0 := by
  funext i
  unfold flatP
  rw [flat_z0]
  split <;> rfl
theorem flat_d0 : flat d0 = upd (upd (upd (fun _ => 0) 4 12) 6 10) 7 10 := by
  funext i
  by_cases h7 : i = 7
  · subst h7; rfl
  · by_cases h6 : i = 6
    · subst h6; rfl
    · by_cases h4 : i = 4
      · subst h4; rfl
      · rw [upd_o h7, upd_o h6, upd_o h4]
        unfold flat d0
        split
        · show (if i = 4 then (12 : Int32) else if i = 6 then 10 else if i = 7 then 10 else 0) = 0
          rw [if_neg h4, if_neg h6, if_neg h7]
        · repeat' split
          all_goals rfl
theorem wrd_0 {E : xE} : wrdE E = .inl (E.1.2 6, 9, .inr (.inr (.inr (.inr (va_up (va_up (va_up (va_up (va_up (va_up (va_up (va_up (va_up (fun _ => none) 0 (some (kS E 28))) 1 (some (kS E 29))) 2 (some (kS E 30))) 3 (some (kS E 31))) 4 (some (kS E 32))) 5 (some (kS E 33))) 6 (some (kS E 34))) 7 (some (kS E 35))) 8 (some (kS E 36))))))) := by
  unfold wrdE
  congr 7
  funext k
  by_cases h : k < 9
  · rcases (show k = 0 ∨ k = 1 ∨ k = 2 ∨ k = 3 ∨ k = 4 ∨ k = 5 ∨ k = 6 ∨ k = 7 ∨ k = 8 by omega) with rfl | rfl | rfl | rfl | rfl | rfl | rfl | rfl | rfl <;> rfl
  · rw [if_neg h, va_up_o (by omega), va_up_o (by omega), va_up_o (by omega), va_up_o (by omega), va_up_o (by omega), va_up_o (by omega), va_up_o (by omega), va_up_o (by omega), va_up_o (by omega)]
set_option maxRecDepth 100000 in
set_option maxHeartbeats 4000000 in
theorem ct_X10_init {E : xE} {Po : xPo} {w : xW} {b : Nat} (h2 : w.2 = b + 1) (hw : w.1 b = some (.inr (12, [.null, .null, .null, .null, .int 0, .null, .int 0, .int 0, .int 0, .int 0, .int 0, .null, .int 0, .null, .null, .int 0, .int 0, .int 0, .int 0, .null, .int 0]))) (hp : Po (.inl none) ((md E w b d0 r0 o0 t0).1, b + 10)) : Ct M_X10_init E [.ref b] w Po := by
  refine Ct.of (ws2 := xAll) (L := [some (.ref b)]) (by decide +kernel) rfl rfl (List.forall_mem_cons.mpr ⟨rfl, fun _ h => absurd h List.not_mem_nil⟩) (Nat.le_of_ble_eq_true rfl) rfl ?_
  rw [pst_0 h2 hw]
  refine r_aload_n (q := 1) dX10_init_0 rfl rfl rfl ?_
  refine r_objInit (q := 4) dX10_init_1 o_X10_init (List.mem_cons_of_mem _ oi1) (List.mem_cons_of_mem _ oi2) (Nat.le_of_ble_eq_true rfl) (Nat.le_of_ble_eq_true rfl) (Nat.le_of_ble_eq_true rfl) rfl ?_
  refine r_aload_n (q := 5) dX10_init_4 rfl rfl rfl ?_
  refine r_sipush (q := 8) (v := 129) dX10_init_5 (by decide) rfl ?_
  refine r_newarray (q := 10) (ty := .int) (t0 := 0) (N := 129) (a0 := (129, .inl (fun _ => 0))) dX10_init_8 rfl (List.mem_cons_of_mem _ aw_int) rfl (fun _ h => h) rfl (by decide) (by decide) (Nat.le_of_ble_eq_true rfl) (Nat.le_of_ble_eq_true rfl) (Nat.le_of_ble_eq_true rfl) rfl ?_
  rw [pst_add, pst_2]
  refine r_putfieldF (q := 13) dX10_init_10 f_X10_init_9 rfl rfl (pst_at0 (by omega)) rfl rfl (by exact Nat.le_of_ble_eq_true rfl) rfl ?_
  rw [pst_set0 (by omega)]
  refine r_aload_n (q := 14) dX10_init_13 rfl rfl rfl ?_
  refine r_sipush (q := 17) (v := 129) dX10_init_14 (by decide) rfl ?_
  refine r_newarray (q := 19) (ty := .int) (t0 := 0) (N := 129) (a0 := (129, .inl (fun _ => 0))) dX10_init_17 rfl (List.mem_cons_of_mem _ aw_int) rfl (fun _ h => h) rfl (by decide) (by decide) (Nat.le_of_ble_eq_true rfl) (Nat.le_of_ble_eq_true rfl) (Nat.le_of_ble_eq_true rfl) rfl ?_
  rw [pst_add, pst_2]
  refine r_putfieldF (q := 22) dX10_init_19 f_X10_init_13 rfl rfl (pst_at0 (by omega)) rfl rfl (by exact Nat.le_of_ble_eq_true rfl) rfl ?_
  rw [pst_set0 (by omega)]
  refine r_aload_n (q := 23) dX10_init_22 rfl rfl rfl ?_
  refine r_sipush (q := 26) (v := 129) dX10_init_23 (by decide) rfl ?_
  refine r_newarray (q := 28) (ty := .int) (t0 := 0) (N := 129) (a0 := (129, .inl (fun _ => 0))) dX10_init_26 rfl (List.mem_cons_of_mem _ aw_int) rfl (fun _ h => h) rfl (by decide) (by decide) (Nat.le_of_ble_eq_true rfl) (Nat.le_of_ble_eq_true rfl) (Nat.le_of_ble_eq_true rfl) rfl ?_
  rw [pst_add, pst_2]
  refine r_putfieldF (q := 31) dX10_init_28 f_X10_init_16 rfl rfl (pst_at0 (by omega)) rfl rfl (by exact Nat.le_of_ble_eq_true rfl) rfl ?_
  rw [pst_set0 (by omega)]
  refine r_aload_n (q := 32) dX10_init_31 rfl rfl rfl ?_
  refine r_sipush (q := 35) (v := 129) dX10_init_32 (by decide) rfl ?_
  refine r_newarray (q := 37) (ty := .int) (t0 := 0) (N := 129) (a0 := (129, .inl (fun _ => 0))) dX10_init_35 rfl (List.mem_cons_of_mem _ aw_int) rfl (fun _ h => h) rfl (by decide) (by decide) (Nat.le_of_ble_eq_true rfl) (Nat.le_of_ble_eq_true rfl) (Nat.le_of_ble_eq_true rfl) rfl ?_
  rw [pst_add, pst_2]
  refine r_putfieldF (q := 40) dX10_init_37 f_X10_init_19 rfl rfl (pst_at0 (by omega)) rfl rfl (by exact Nat.le_of_ble_eq_true rfl) rfl ?_
  rw [pst_set0 (by omega)]
  refine r_aload_n (q := 41) dX10_init_40 rfl rfl rfl ?_
  refine r_sipush (q := 44) (v := 1032) dX10_init_41 (by decide) rfl ?_
  refine r_newarray (q := 46) (ty := .int) (t0 := 0) (N := 1032) (a0 := (1032, .inl (fun _ => 0))) dX10_init_44 rfl (List.mem_cons_of_mem _ aw_int) rfl (fun _ h => h) rfl (by decide) (by decide) (Nat.le_of_ble_eq_true rfl) (Nat.le_of_ble_eq_true rfl) (Nat.le_of_ble_eq_true rfl) rfl ?_
  rw [pst_add, pst_2]
  refine r_putfieldF (q := 49) dX10_init_46 f_X10_init_22 rfl rfl (pst_at0 (by omega)) rfl rfl (by exact Nat.le_of_ble_eq_true rfl) rfl ?_
  rw [pst_set0 (by omega)]
  refine r_aload_n (q := 50) dX10_init_49 rfl rfl rfl ?_
  refine r_bipush (q := 52) (v := 60) dX10_init_50 (by decide) rfl ?_
  refine r_newarray (q := 54) (ty := .char) (t0 := 1) (N := 60) (a0 := (60, .inl (fun _ => 0))) dX10_init_52 rfl (List.mem_cons_of_mem _ aw_char) rfl (fun _ h => h) rfl (by decide) (by decide) (Nat.le_of_ble_eq_true rfl) (Nat.le_of_ble_eq_true rfl) (Nat.le_of_ble_eq_true rfl) rfl ?_
  rw [pst_add, pst_2]
  refine r_putfieldF (q := 57) dX10_init_54 f_X10_init_25 rfl rfl (pst_at0 (by omega)) rfl rfl (by exact Nat.le_of_ble_eq_true rfl) rfl ?_
  rw [pst_set0 (by omega)]
  refine r_aload_n (q := 58) dX10_init_57 rfl rfl rfl ?_
  refine r_bipush (q := 60) (v := 9) dX10_init_58 (by decide) rfl ?_
  refine r_anewarray (q := 63) (t0 := 6) (N := 9) dX10_init_60 (List.mem_cons_of_mem _ cl_X10_init_29) (by decide) rfl (by decide) (by decide) (Nat.le_of_ble_eq_true rfl) (Nat.le_of_ble_eq_true rfl) (Nat.le_of_ble_eq_true rfl) rfl ?_
  rw [pst_add, pst_2]
  refine r_dup (q := 64) dX10_init_63 rfl rfl ?_
  refine r_iconst (q := 65) (v := 0) dX10_init_64 rfl rfl ?_
  refine r_ldcS (q := 67) (i := 28) dX10_init_65 rfl rfl ?_
  refine r_aastoreK (q := 68) dX10_init_67 (pst_at (o := 7) (by omega)) (k_so (by decide)) (vp_in_nI (n := 0) (by decide) (by decide)) rfl ?_
  rw [pst_set (o := 7) (by omega)]
  refine r_dup (q := 69) dX10_init_68 rfl rfl ?_
  refine r_iconst (q := 70) (v := 1) dX10_init_69 rfl rfl ?_
  refine r_ldcS (q := 72) (i := 29) dX10_init_70 rfl rfl ?_
  refine r_aastoreK (q := 73) dX10_init_72 (pst_at (o := 7) (by omega)) (k_so (by decide)) (vp_in_nI (n := 1) (by decide) (by decide)) rfl ?_
  rw [pst_set (o := 7) (by omega)]
  refine r_dup (q := 74) dX10_init_73 rfl rfl ?_
  refine r_iconst (q := 75) (v := 2) dX10_init_74 rfl rfl ?_
  refine r_ldcS (q := 77) (i := 30) dX10_init_75 rfl rfl ?_
  refine r_aastoreK (q := 78) dX10_init_77 (pst_at (o := 7) (by omega)) (k_so (by decide)) (vp_in_nI (n := 2) (by decide) (by decide)) rfl ?_
  rw [pst_set (o := 7) (by omega)]
  refine r_dup (q := 79) dX10_init_78 rfl rfl ?_
  refine r_iconst (q := 80) (v := 3) dX10_init_79 rfl rfl ?_
  refine r_ldcS (q := 82) (i := 31) dX10_init_80 rfl rfl ?_
  refine r_aastoreK (q := 83) dX10_init_82 (pst_at (o := 7) (by omega)) (k_so (by decide)) (vp_in_nI (n := 3) (by decide) (by decide)) rfl ?_
  rw [pst_set (o := 7) (by omega)]
  refine r_dup (q := 84) dX10_init_83 rfl rfl ?_
  refine r_iconst (q := 85) (v := 4) dX10_init_84 rfl rfl ?_
  refine r_ldcS (q := 87) (i := 32) dX10_init_85 rfl rfl ?_
  refine r_aastoreK (q := 88) dX10_init_87 (pst_at (o := 7) (by omega)) (k_so (by decide)) (vp_in_nI (n := 4) (by decide) (by decide)) rfl ?_
  rw [pst_set (o := 7) (by omega)]
  refine r_dup (q := 89) dX10_init_88 rfl rfl ?_
  refine r_iconst (q := 90) (v := 5) dX10_init_89 rfl rfl ?_
  refine r_ldcS (q := 92) (i := 33) dX10_init_90 rfl rfl ?_
  refine r_aastoreK (q := 93) dX10_init_92 (pst_at (o := 7) (by omega)) (k_so (by decide)) (vp_in_nI (n := 5) (by decide) (by decide)) rfl ?_
  rw [pst_set (o := 7) (by omega)]
  refine r_dup (q := 94) dX10_init_93 rfl rfl ?_
  refine r_bipush (q := 96) (v := 6) dX10_init_94 (by decide) rfl ?_
  refine r_ldcS (q := 98) (i := 34) dX10_init_96 rfl rfl ?_
  refine r_aastoreK (q := 99) dX10_init_98 (pst_at (o := 7) (by omega)) (k_so (by decide)) (vp_in_nI (n := 6) (by decide) (by decide)) rfl ?_
  rw [pst_set (o := 7) (by omega)]
  refine r_dup (q := 100) dX10_init_99 rfl rfl ?_
  refine r_bipush (q := 102) (v := 7) dX10_init_100 (by decide) rfl ?_
  refine r_ldcS (q := 104) (i := 35) dX10_init_102 rfl rfl ?_
  refine r_aastoreK (q := 105) dX10_init_104 (pst_at (o := 7) (by omega)) (k_so (by decide)) (vp_in_nI (n := 7) (by decide) (by decide)) rfl ?_
  rw [pst_set (o := 7) (by omega)]
  refine r_dup (q := 106) dX10_init_105 rfl rfl ?_
  refine r_bipush (q := 108) (v := 8) dX10_init_106 (by decide) rfl ?_
  refine r_ldcS (q := 110) (i := 36) dX10_init_108 rfl rfl ?_
  refine r_aastoreK (q := 111) dX10_init_110 (pst_at (o := 7) (by omega)) (k_so (by decide)) (vp_in_nI (n := 8) (by decide) (by decide)) rfl ?_
  rw [pst_set (o := 7) (by omega)]
  refine r_putfieldF (q := 114) dX10_init_111 f_X10_init_49 rfl rfl (pst_at0 (by omega)) rfl rfl (by exact Nat.le_of_ble_eq_true rfl) rfl ?_
  rw [pst_set0 (by omega)]
  refine r_aload_n (q := 115) dX10_init_114 rfl rfl rfl ?_
  refine r_bipush (q := 117) (v := 60) dX10_init_115 (by decide) rfl ?_
  refine r_newarray (q := 119) (ty := .char) (t0 := 1) (N := 60) (a0 := (60, .inl (fun _ => 0))) dX10_init_117 rfl (List.mem_cons_of_mem _ aw_char) rfl (fun _ h => h) rfl (by decide) (by decide) (Nat.le_of_ble_eq_true rfl) (Nat.le_of_ble_eq_true rfl) (Nat.le_of_ble_eq_true rfl) rfl ?_
  rw [pst_add, pst_2]
  refine r_putfieldF (q := 122) dX10_init_119 f_X10_init_53 rfl rfl (pst_at0 (by omega)) rfl rfl (by exact Nat.le_of_ble_eq_true rfl) rfl ?_
  rw [pst_set0 (by omega)]
  refine r_aload_n (q := 123) dX10_init_122 rfl rfl rfl ?_
  refine r_iconst (q := 124) (v := (-1)) dX10_init_123 rfl rfl ?_
  refine r_putfield (q := 127) dX10_init_124 f_X10_init_56 (pst_at0 (by omega)) rfl rfl (by exact Nat.le_of_ble_eq_true rfl) rfl ?_
  rw [pst_set0 (by omega)]
  refine r_aload_n (q := 128) dX10_init_127 rfl rfl rfl ?_
  refine r_sipush (q := 131) (v := 180) dX10_init_128 (by decide) rfl ?_
  refine r_newarray (q := 133) (ty := .int) (t0 := 0) (N := 180) (a0 := (180, .inl (fun _ => 0))) dX10_init_131 rfl (List.mem_cons_of_mem _ aw_int) rfl (fun _ h => h) rfl (by decide) (by decide) (Nat.le_of_ble_eq_true rfl) (Nat.le_of_ble_eq_true rfl) (Nat.le_of_ble_eq_true rfl) rfl ?_
  rw [pst_add, pst_2]
  refine r_putfieldF (q := 136) dX10_init_133 f_X10_init_60 rfl rfl (pst_at0 (by omega)) rfl rfl (by exact Nat.le_of_ble_eq_true rfl) rfl ?_
  rw [pst_set0 (by omega)]
  refine r_aload_n (q := 137) dX10_init_136 rfl rfl rfl ?_
  refine r_getfield (q := 140) dX10_init_137 f_X10_init_9 (pst_at0 (by omega)) (by rfl) rfl ?_
  refine r_iconst (q := 141) (v := 4) dX10_init_140 rfl rfl ?_
  refine r_bipush (q := 143) (v := 12) dX10_init_141 (by decide) rfl ?_
  refine r_iastore (q := 144) dX10_init_143 (pst_at (o := 1) (by omega)) (vp_in_nI (n := 4) (by decide) (by decide)) rfl ?_
  rw [pst_set (o := 1) (by omega)]
  refine r_aload_n (q := 145) dX10_init_144 rfl rfl rfl ?_
  refine r_getfield (q := 148) dX10_init_145 f_X10_init_9 (pst_at0 (by omega)) (by rfl) rfl ?_
  refine r_bipush (q := 150) (v := 6) dX10_init_148 (by decide) rfl ?_
  refine r_bipush (q := 152) (v := 10) dX10_init_150 (by decide) rfl ?_
  refine r_iastore (q := 153) dX10_init_152 (pst_at (o := 1) (by omega)) (vp_in_nI (n := 6) (by decide) (by decide)) rfl ?_
  rw [pst_set (o := 1) (by omega)]
  refine r_aload_n (q := 154) dX10_init_153 rfl rfl rfl ?_
  refine r_getfield (q := 157) dX10_init_154 f_X10_init_9 (pst_at0 (by omega)) (by rfl) rfl ?_
  refine r_bipush (q := 159) (v := 7) dX10_init_157 (by decide) rfl ?_
  refine r_bipush (q := 161) (v := 10) dX10_init_159 (by decide) rfl ?_
  refine r_iastore (q := 162) dX10_init_161 (pst_at (o := 1) (by omega)) (vp_in_nI (n := 7) (by decide) (by decide)) rfl ?_
  rw [pst_set (o := 1) (by omega)]
  refine r_vret dX10_init_162 rfl (Nat.le_of_ble_eq_true rfl) (Nat.le_of_ble_eq_true rfl) ?_
  rw [pst_congr (g := mdC E b d0 r0 o0 t0) (fun o ho => ?_)]
  · exact hp
  · rcases (show o = 0 ∨ o = 1 ∨ o = 2 ∨ o = 3 ∨ o = 4 ∨ o = 5 ∨ o = 6 ∨ o = 7 ∨ o = 8 ∨ o = 9 by omega) with rfl | rfl | rfl | rfl | rfl | rfl | rfl | rfl | rfl | rfl
    · rfl
    · show _ = rowE E d0
      unfold rowE; rw [flat_d0]; rfl
    · show _ = rowE E z0
      unfold rowE; rw [flat_z0]; rfl
    · show _ = rowE E z0
      unfold rowE; rw [flat_z0]; rfl
    · show _ = rowE E z0
      unfold rowE; rw [flat_z0]; rfl
    · show _ = pstE E (fun _ => z0)
      unfold pstE; rw [flatP_z0]; rfl
    · rfl
    · show _ = wrdE E
      rw [wrd_0]; rfl
    · rfl
    · rfl
