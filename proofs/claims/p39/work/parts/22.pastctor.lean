/-! ===== 22.pastctor: the ring of stores made (rows laid by wip/p39/gen/make22.py) ===== -/
theorem sto_pst {E : xE} {w : xW} {b : Nat} {c : xCo} : ((sto E w b c).1, b + 27) = pst w b 27 (stoC E b c) := rfl
/-- more cells behind those made -/
def pap (F : Nat → va_E) (N : Nat) (G : Nat → va_E) : Nat → va_E := fun o => if o < N then F o else G (o - N)
theorem pap_l {F G : Nat → va_E} {N o : Nat} (h : o < N) : pap F N G o = F o := if_pos h
theorem pap_r {F G : Nat → va_E} {N o : Nat} (h : N ≤ o) : pap F N G o = G (o - N) := if_neg (by omega)
theorem pap_a {F G : Nat → va_E} {N o : Nat} : pap F N G (N + o) = G o := by rw [pap_r (by omega), show N + o - N = o by omega]
theorem pst_pst {w : xW} {x N K : Nat} {F G : Nat → va_E} {e : va_E} (hK : 1 ≤ K) : pst (pst w x (N + 1) (va_up F N e)) (x + N) K G = pst w x (N + K) (pap F N G) := by
  refine pst_ext (by show x + N + K = x + (N + K); omega) (fun o ho => ?_) (fun q hq => ?_)
  · by_cases h : o < N
    · rw [pst_out (by omega), pst_at (by omega), va_up_o (by omega), pap_l h]
    · obtain ⟨r, rfl⟩ : ∃ r, o = N + r := ⟨o - N, by omega⟩
      rw [← Nat.add_assoc, pst_at (by omega), pap_a]
  · rw [pst_out (by omega), pst_out (by omega)]
def pasE (b : Nat) (nx ct : Int32) : va_E := .inr (5, [.ref b, .int nx, .int ct])
/-- the cells of the past: itself, the ring, the ring's stores -/
def pasC (E : xE) (b j : Nat) (nx ct : Int32) (r : Nat → xCo) (o : Nat) : va_E := if o = 0 then pasE (b + 1) nx ct else if o = 1 then arN (E.1.2 5) 9 (b + 2) 27 j else stoC E (b + 2 + 27 * ((o - 2) / 27)) (r ((o - 2) / 27)) ((o - 2) % 27)
theorem pasC_1 {E : xE} {b j : Nat} {nx ct : Int32} {r : Nat → xCo} : pasC E b j nx ct r 1 = arN (E.1.2 5) 9 (b + 2) 27 j := rfl
theorem pasC_0 {E : xE} {b j : Nat} {nx ct : Int32} {r : Nat → xCo} : pasC E b j nx ct r 0 = pasE (b + 1) nx ct := rfl
theorem pasC_S {E : xE} {b j i o : Nat} {nx ct : Int32} {r : Nat → xCo} (h : o < 27) : pasC E b j nx ct r (2 + 27 * i + o) = stoC E (b + 2 + 27 * i) (r i) o := by
  unfold pasC
  rw [if_neg (by omega), if_neg (by omega), show (2 + 27 * i + o - 2) / 27 = i by omega, show (2 + 27 * i + o - 2) % 27 = o by omega]
theorem pasC_j {E : xE} {b j j2 o : Nat} {nx ct : Int32} {r : Nat → xCo} (h : o ≠ 1) : pasC E b j nx ct r o = pasC E b j2 nx ct r o := by unfold pasC; rw [if_neg h, if_neg h]
theorem pas_s {E : xE} {w : xW} {b j : Nat} {e : va_E} : pst w b (2 + 27 * j + 27) (va_up (pap (pasC E b j 0 0 (fun _ => co0)) (2 + 27 * j) (stoC E (b + (2 + 27 * j)) co0)) 1 (arN (E.1.2 5) 9 (b + 2) 27 (j + 1))) = pst w b (2 + 27 * (j + 1)) (pasC E b (j + 1) 0 0 (fun _ => co0)) := by
  rw [show 2 + 27 * (j + 1) = 2 + 27 * j + 27 by omega]
  refine pst_congr (fun o ho => ?_)
  by_cases h2 : o = 1
  · subst h2; rw [va_up_s]; rfl
  · rw [va_up_o h2]
    by_cases h5 : o < 2 + 27 * j
    · rw [pap_l h5]; exact pasC_j h2
    · obtain ⟨r, rfl⟩ : ∃ r, o = 2 + 27 * j + r := ⟨o - (2 + 27 * j), by omega⟩
      rw [pap_a, pasC_S (by omega), show b + (2 + 27 * j) = b + 2 + 27 * j by omega]
set_option maxRecDepth 100000 in
set_option maxHeartbeats 4000000 in
theorem lp_X3_init {E : xE} {Po : xPo} {w0 w : xW} {b : Nat} (n : Nat) : ∀ (j : Nat) (hj : j ≤ 9) (hp : Po (.inl none) (pst w b 245 (pasC E b 9 0 0 (fun _ => co0)))) (hn : 9 - j < n), WF M_X3_init E Po w0 25 [some (.ref b), some (.int (nI j))] [] (pst w b (2 + 27 * j) (pasC E b j 0 0 (fun _ => co0))) (1 + 27 * j) (9 + 157 * j) := by
  induction n with
  | zero => intro j hj hp hn; exact absurd hn (Nat.not_lt_zero _)
  | succ n ih =>
    intro j hj hp hn
    refine r_iload_n (q := 26) dX3_init_25 rfl rfl rfl ?_
    refine r_bipush (q := 28) (v := 9) dX3_init_26 (by decide) rfl ?_
    refine r_icmp_ge (q := 50) (q2 := 31) dX3_init_28 (by decide) rfl (fun h28 => ?_) (fun h28 => ?_)
    · have hj8 : 9 ≤ j := (nI_leI (a := 9) (by omega) (by omega)).mp h28
      obtain rfl : j = 9 := by omega
      refine r_vret dX3_init_50 rfl (Nat.le_of_ble_eq_true rfl) (Nat.le_of_ble_eq_true rfl) ?_
      exact hp
    · have hj8 : j < 9 := Nat.not_le.mp (fun z => h28 ((nI_leI (a := 9) (by omega) (by omega)).mpr z))
      refine r_aload_n (q := 32) dX3_init_31 rfl rfl rfl ?_
      refine r_getfield (q := 35) dX3_init_32 f_X3_init_11 ((pst_at0 (by omega)).trans (congrArg some pasC_0)) (by rfl) rfl ?_
      refine r_iload_n (q := 36) dX3_init_35 rfl rfl rfl ?_
      refine r_new (q := 39) dX3_init_36 nw_X3_init_9 (by show 1 + 27 * j + 1 ≤ 244; omega) (by show 9 + 157 * j + 14 ≤ 1422; omega) rfl ?_
      rw [pst_add, pst_2]
      refine r_dup (q := 40) dX3_init_39 rfl rfl ?_
      refine r_callI (q := 43) (As := []) dX3_init_40 s_X3_init_22 rfl (Nat.le_of_ble_eq_true rfl) rfl rfl rfl ⟨(by show 1 + 27 * j + 1 + 26 ≤ 244; omega), (by show 9 + 157 * j + 14 + 143 ≤ 1422; omega)⟩ rfl ?_
      refine ct_X5_init rfl ((pst_at (by omega)).trans (congrArg some va_up_s)) ?_
      show WF _ E Po _ _ _ _ _ _ _
      rw [sto_pst, pst_pst (by omega)]
      refine r_aastore (q := 44) (t0 := 5) dX3_init_43 rfl ((pst_at (o := 1) (by omega)).trans (congrArg some ((pap_l (by omega)).trans pasC_1))) ((pst_at (o := 2 + 27 * j) (by omega)).trans (congrArg some ((pap_a (o := 0)).trans (stoC_0 (c := co0))))) rfl (vp_in_nI hj8 (by decide)) rfl ?_
      rw [nI_cl (by omega), show b + (2 + 27 * j) = b + 2 + 27 * j by omega, arN_s, pst_set (by omega), ← show b + (2 + 27 * j) = b + 2 + 27 * j by omega, pas_s (e := .inr (0, []))]
      refine r_iinc (q := 47) dX3_init_44 rfl (Nat.le_of_ble_eq_true rfl) (xone_of rfl) rfl ?_
      rw [show nI j + Int32.ofInt 1 = nI (j + 1) from nI_1 j]
      refine r_goto (q := 25) dX3_init_47 (by decide) ?_
      exact WF.kn (by show 1 + 27 * j + 1 + 26 = _; omega) (by show 9 + 157 * j + 14 + 143 = _; omega) (ih (j + 1) (by omega) hp (by omega))
set_option maxRecDepth 100000 in
set_option maxHeartbeats 4000000 in
theorem ct_X3_init {E : xE} {Po : xPo} {w : xW} {b : Nat} (h2 : w.2 = b + 1) (hw : w.1 b = some (.inr (5, [.null, .int 0, .int 0]))) (hp : Po (.inl none) (pst w b 245 (pasC E b 9 0 0 (fun _ => co0)))) : Ct M_X3_init E [.ref b] w Po := by
  refine Ct.of (ws2 := xAll) (L := [some (.ref b), none]) (by decide +kernel) rfl rfl (List.forall_mem_cons.mpr ⟨rfl, fun _ h => absurd h List.not_mem_nil⟩) (Nat.le_of_ble_eq_true rfl) rfl ?_
  rw [pst_0 h2 hw]
  refine r_aload_n (q := 1) dX3_init_0 rfl rfl rfl ?_
  refine r_objInit (q := 4) dX3_init_1 o_X3_init (List.mem_cons_of_mem _ oi1) (List.mem_cons_of_mem _ oi2) (Nat.le_of_ble_eq_true rfl) (Nat.le_of_ble_eq_true rfl) (Nat.le_of_ble_eq_true rfl) rfl ?_
  refine r_aload_n (q := 5) dX3_init_4 rfl rfl rfl ?_
  refine r_bipush (q := 7) (v := 9) dX3_init_5 (by decide) rfl ?_
  refine r_anewarray (q := 10) (t0 := 5) (N := 9) dX3_init_7 (List.mem_cons_of_mem _ cl_X3_init_9) (by decide) rfl (by decide) (by decide) (Nat.le_of_ble_eq_true rfl) (Nat.le_of_ble_eq_true rfl) (Nat.le_of_ble_eq_true rfl) rfl ?_
  rw [pst_add, pst_2]
  refine r_putfieldF (q := 13) dX3_init_10 f_X3_init_11 rfl rfl (pst_at0 (by omega)) rfl rfl (by exact Nat.le_of_ble_eq_true rfl) rfl ?_
  rw [pst_set0 (by omega)]
  refine r_aload_n (q := 14) dX3_init_13 rfl rfl rfl ?_
  refine r_iconst (q := 15) (v := 0) dX3_init_14 rfl rfl ?_
  refine r_putfield (q := 18) dX3_init_15 f_X3_init_15 (pst_at0 (by omega)) rfl rfl (by exact Nat.le_of_ble_eq_true rfl) rfl ?_
  rw [pst_set0 (by omega)]
  refine r_aload_n (q := 19) dX3_init_18 rfl rfl rfl ?_
  refine r_iconst (q := 20) (v := 0) dX3_init_19 rfl rfl ?_
  refine r_putfield (q := 23) dX3_init_20 f_X3_init_19 (pst_at0 (by omega)) rfl rfl (by exact Nat.le_of_ble_eq_true rfl) rfl ?_
  rw [pst_set0 (by omega)]
  refine r_iconst (q := 24) (v := 0) dX3_init_23 rfl rfl ?_
  refine r_istore_n (q := 25) dX3_init_24 rfl (Nat.le_of_ble_eq_true rfl) (xone_of rfl) rfl ?_
  have h9 := lp_X3_init (w := w) (w0 := pst w b 1 (fun _ => .inr (5, [.null, .int 0, .int 0]))) 10 0 (by omega) hp (by omega)
  refine WF.cw (pst_congr (g := pasC E b 0 0 0 (fun _ => co0)) (fun o ho => ?_)) ?_
  · have : o = 0 ∨ o = 1 := by omega
    rcases this with rfl | rfl
    · rfl
    · exact arN_0
  · exact WF.kn (by rfl) (by rfl) h9
