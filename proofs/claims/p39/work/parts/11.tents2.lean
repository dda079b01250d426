/-! ===== 11.tents2: append, removeFirst, copyFrom of tents (rows laid by wip/p39/gen/leafs3.py) ===== -/
theorem tnt_ign {g k : Nat} {f : Nat → Int32} {x : Int32} (hk : 5 ≤ k) : tntE g (upd f k x) = tntE g f := by
  unfold tntE
  rw [upd_o (by omega), upd_o (by omega), upd_o (by omega), upd_o (by omega), upd_o (by omega)]
theorem shF_0 {f : Nat → Int32} : shF f 0 = f := by
  funext k
  unfold shF
  rw [if_neg (by omega)]
theorem shF_s {f : Nat → Int32} {j : Nat} : upd (shF f j) (5 + j) (shF f j (5 + (j + 1))) = shF f (j + 1) := by
  funext k
  unfold shF upd
  by_cases h : k = 5 + j
  · subst h
    rw [if_pos rfl, if_neg (by omega), if_pos (by omega)]
    rfl
  · rw [if_neg h]
    show (if 5 ≤ k ∧ k < 5 + j then f (k + 1) else f k) = _
    by_cases h2 : 5 ≤ k ∧ k < 5 + j
    · rw [if_pos h2, if_pos (by omega)]
    · rw [if_neg h2, if_neg (by omega)]
theorem cpF_0 {f g : Nat → Int32} : cpF f g 0 = f := by
  funext k
  unfold cpF
  rw [if_neg (by omega)]
theorem cpF_s {f g : Nat → Int32} {j : Nat} : upd (cpF f g j) (5 + j) (g (5 + j)) = cpF f g (j + 1) := by
  funext k
  unfold cpF upd
  by_cases h : k = 5 + j
  · subst h
    rw [if_pos rfl, if_pos (by omega)]
  · rw [if_neg h]
    show (if 5 ≤ k ∧ k < 5 + j then g k else f k) = _
    by_cases h2 : 5 ≤ k ∧ k < 5 + j
    · rw [if_pos h2, if_pos (by omega)]
    · rw [if_neg h2, if_neg (by omega)]
theorem cpF_6 {E : xE} {f g : Nat → Int32} : gstE E (cpF f g 6) = gstE E g := by
  unfold gstE
  congr 4
  funext k
  split
  · unfold cpF
    rw [if_pos (by omega)]
  · rfl
theorem nI_p1 (j : Nat) : nI (j + 1) - 1 = nI j := nI_pred j
set_option maxRecDepth 100000 in
set_option maxHeartbeats 4000000 in
theorem ct_X6_append {E : xE} {Po : xPo} {w : xW} {a g : Nat} {f : Nat → Int32} (hw : w.1 a = some (tntE g f)) (hg : w.1 g = some (gstE E f)) (hag : a ≠ g) {m : Nat} {x : Int32} (hm : f 4 = nI m) (hm6 : m < 6) (hp : Po (.inl none) (xset (xset w g (gstE E (upd f (5 + m) x))) a (tntE g (upd f 4 (nI m + 1))))) : Ct M_X6_append E [.ref a, .int x] w Po := by
  refine Ct.of (ws2 := xAll) (L := [some (.ref a), some (.int x)]) (by decide +kernel) rfl rfl (List.forall_mem_cons.mpr ⟨rfl, List.forall_mem_cons.mpr ⟨rfl, fun _ h => absurd h List.not_mem_nil⟩⟩) (Nat.le_of_ble_eq_true rfl) rfl ?_
  refine r_aload_n (q := 1) dX6_append_0 rfl rfl rfl ?_
  refine r_getfield (q := 4) dX6_append_1 f_X6_append_19 hw rfl rfl ?_
  rw [hm]
  refine r_if_lt (q := 36) (q2 := 7) dX6_append_4 (by decide) rfl (fun h9 => absurd h9 (nI_pos (by omega))) (fun _ => ?_)
  refine r_aload_n (q := 8) dX6_append_7 rfl rfl rfl ?_
  refine r_getfield (q := 11) dX6_append_8 f_X6_append_19 hw rfl rfl ?_
  refine r_bipush (q := 13) (v := 6) dX6_append_11 (by decide) rfl ?_
  rw [hm]
  refine r_icmp_ge (q := 36) (q2 := 16) dX6_append_13 (by decide) rfl (fun h9 => absurd h9 (nI_ge (a := m) (b := 6) (by omega) (by omega))) (fun _ => ?_)
  refine r_aload_n (q := 17) dX6_append_16 rfl rfl rfl ?_
  refine r_getfield (q := 20) dX6_append_17 f_X6_append_25 hw rfl rfl ?_
  refine r_aload_n (q := 21) dX6_append_20 rfl rfl rfl ?_
  refine r_getfield (q := 24) dX6_append_21 f_X6_append_19 hw rfl rfl ?_
  refine r_iload_n (q := 25) dX6_append_24 rfl rfl rfl ?_
  rw [hm]
  refine r_iastore (q := 26) dX6_append_25 hg (vp_in_nI hm6 (by decide)) rfl ?_
  rw [nI_cl (by omega), gst_upd hm6]
  refine r_aload_n (q := 27) dX6_append_26 rfl rfl rfl ?_
  refine r_dup (q := 28) dX6_append_27 rfl rfl ?_
  refine r_getfield (q := 31) dX6_append_28 f_X6_append_19 ((xset_o hag).trans hw) (by rfl) rfl ?_
  rw [hm]
  refine r_iconst (q := 32) (v := 1) dX6_append_31 rfl rfl ?_
  refine r_iadd (q := 33) dX6_append_32 rfl ?_
  refine r_putfield (q := 36) dX6_append_33 f_X6_append_19 ((xset_o hag).trans hw) rfl rfl (by exact Nat.le_of_ble_eq_true rfl) rfl ?_
  refine r_vret dX6_append_36 rfl (Nat.le_of_ble_eq_true rfl) (Nat.le_of_ble_eq_true rfl) ?_
  exact hp
set_option maxRecDepth 100000 in
set_option maxHeartbeats 4000000 in
theorem lp_X6_removeFirst {E : xE} {Po : xPo} {w0 w : xW} {a g : Nat} {f : Nat → Int32} (hw : w.1 a = some (tntE g f)) (hg : w.1 g = some (gstE E f)) (hag : a ≠ g) (n : Nat) : ∀ (j : Nat) (hj : j ≤ 5) (hp : Po (.inl none) (xset (xset w g (gstE E (shF f 5))) a (tntE g (upd f 4 (f 4 - 1))))) (hn : 5 - j < n), WF M_X6_removeFirst E Po w0 2 [some (.ref a), some (.int (nI (j + 1)))] [] (xset w g (gstE E (shF f j))) 0 0 := by
  induction n with
  | zero => intro j hj hp hn; exact absurd hn (Nat.not_lt_zero _)
  | succ n ih =>
    intro j hj hp hn
    refine r_iload_n (q := 3) dX6_removeFirst_2 rfl rfl rfl ?_
    refine r_bipush (q := 5) (v := 6) dX6_removeFirst_3 (by decide) rfl ?_
    refine r_icmp_ge (q := 28) (q2 := 8) dX6_removeFirst_5 (by decide) rfl (fun h5 => ?_) (fun h5 => ?_)
    · have hj8 : 6 ≤ j + 1 := (nI_leI (a := 6) (by omega) (by omega)).mp h5
      obtain rfl : j = 5 := by omega
      refine r_aload_n (q := 29) dX6_removeFirst_28 rfl rfl rfl ?_
      refine r_dup (q := 30) dX6_removeFirst_29 rfl rfl ?_
      refine r_getfield (q := 33) dX6_removeFirst_30 f_X6_removeFirst_19 ((xset_o hag).trans hw) (by rfl) rfl ?_
      refine r_iconst (q := 34) (v := 1) dX6_removeFirst_33 rfl rfl ?_
      refine r_isub (q := 35) dX6_removeFirst_34 rfl ?_
      refine r_putfield (q := 38) dX6_removeFirst_35 f_X6_removeFirst_19 ((xset_o hag).trans hw) rfl rfl (by exact Nat.le_of_ble_eq_true rfl) rfl ?_
      refine r_vret dX6_removeFirst_38 rfl (Nat.le_of_ble_eq_true rfl) (Nat.le_of_ble_eq_true rfl) ?_
      exact hp
    · have hj8 : j + 1 < 6 := Nat.not_le.mp (fun z => h5 ((nI_leI (a := 6) (by omega) (by omega)).mpr z))
      refine r_aload_n (q := 9) dX6_removeFirst_8 rfl rfl rfl ?_
      refine r_getfield (q := 12) dX6_removeFirst_9 f_X6_removeFirst_25 ((xset_o hag).trans hw) (by rfl) rfl ?_
      refine r_iload_n (q := 13) dX6_removeFirst_12 rfl rfl rfl ?_
      refine r_iconst (q := 14) (v := 1) dX6_removeFirst_13 rfl rfl ?_
      refine r_isub (q := 15) dX6_removeFirst_14 rfl ?_
      rw [nI_p1]
      refine r_aload_n (q := 16) dX6_removeFirst_15 rfl rfl rfl ?_
      refine r_getfield (q := 19) dX6_removeFirst_16 f_X6_removeFirst_25 ((xset_o hag).trans hw) (by rfl) rfl ?_
      refine r_iload_n (q := 20) dX6_removeFirst_19 rfl rfl rfl ?_
      refine r_iaload (q := 21) dX6_removeFirst_20 xset_s (vp_in_nI hj8 (by decide)) rfl ?_
      rw [nI_cl (by omega), if_pos hj8]
      refine r_iastore (q := 22) dX6_removeFirst_21 xset_s (vp_in_nI (show j < 6 by omega) (by decide)) rfl ?_
      rw [nI_cl (by omega), gst_upd (by omega), xset_xset, shF_s]
      refine r_iinc (q := 25) dX6_removeFirst_22 rfl (Nat.le_of_ble_eq_true rfl) (xone_of rfl) rfl ?_
      rw [show nI (j + 1) + Int32.ofInt 1 = nI (j + 1 + 1) from nI_1 (j + 1)]
      refine r_goto (q := 2) dX6_removeFirst_25 (by decide) ?_
      exact ih (j + 1) (by omega) hp (by omega)
set_option maxRecDepth 100000 in
set_option maxHeartbeats 4000000 in
theorem ct_X6_removeFirst {E : xE} {Po : xPo} {w : xW} {a g : Nat} {f : Nat → Int32} (hw : w.1 a = some (tntE g f)) (hg : w.1 g = some (gstE E f)) (hag : a ≠ g) (hp : Po (.inl none) (xset (xset w g (gstE E (shF f 5))) a (tntE g (upd f 4 (f 4 - 1))))) : Ct M_X6_removeFirst E [.ref a] w Po := by
  refine Ct.of (ws2 := xAll) (L := [some (.ref a), none]) (by decide +kernel) rfl rfl (List.forall_mem_cons.mpr ⟨rfl, fun _ h => absurd h List.not_mem_nil⟩) (Nat.le_of_ble_eq_true rfl) rfl ?_
  refine r_iconst (q := 1) (v := 1) dX6_removeFirst_0 rfl rfl ?_
  refine r_istore_n (q := 2) dX6_removeFirst_1 rfl (Nat.le_of_ble_eq_true rfl) (xone_of rfl) rfl ?_
  have h0 : w = xset w g (gstE E (shF f 0)) := by rw [shF_0, xset_id hg]
  have h9 := lp_X6_removeFirst (w0 := w) hw hg hag 6 0 (by omega) hp (by omega)
  rw [← h0] at h9
  exact h9
set_option maxRecDepth 100000 in
set_option maxHeartbeats 4000000 in
theorem lp_X6_copyFrom {E : xE} {Po : xPo} {w0 w : xW} {a g b h : Nat} {f f2 : Nat → Int32} (hw : w.1 a = some (tntE g f)) (hg : w.1 g = some (gstE E f)) (hu : w.1 b = some (tntE h f2)) (hh : w.1 h = some (gstE E f2)) (hag : a ≠ g) (hba : b ≠ a) (hbg : b ≠ g) (hha : h ≠ a) (hhg : h ≠ g)  (n : Nat) : ∀ (j : Nat) (hj : j ≤ 6) (hp : Po (.inl none) (xset (xset w a (tntE g f2)) g (gstE E f2))) (hn : 6 - j < n), WF M_X6_copyFrom E Po w0 42 [some (.ref a), some (.ref b), some (.int (nI j))] [] (xset (xset w a (tntE g f2)) g (gstE E (cpF f f2 j))) 0 0 := by
  induction n with
  | zero => intro j hj hp hn; exact absurd hn (Nat.not_lt_zero _)
  | succ n ih =>
    intro j hj hp hn
    refine r_iload_n (q := 43) dX6_copyFrom_42 rfl rfl rfl ?_
    refine r_bipush (q := 45) (v := 6) dX6_copyFrom_43 (by decide) rfl ?_
    refine r_icmp_ge (q := 66) (q2 := 48) dX6_copyFrom_45 (by decide) rfl (fun h45 => ?_) (fun h45 => ?_)
    · have hj8 : 6 ≤ j := (nI_leI (a := 6) (by omega) (by omega)).mp h45
      obtain rfl : j = 6 := by omega
      refine r_vret dX6_copyFrom_66 rfl (Nat.le_of_ble_eq_true rfl) (Nat.le_of_ble_eq_true rfl) ?_
      rw [cpF_6]; exact hp
    · have hj8 : j < 6 := Nat.not_le.mp (fun z => h45 ((nI_leI (a := 6) (by omega) (by omega)).mpr z))
      refine r_aload_n (q := 49) dX6_copyFrom_48 rfl rfl rfl ?_
      refine r_getfield (q := 52) dX6_copyFrom_49 f_X6_copyFrom_25 ((xset_o hag).trans xset_s) (by rfl) rfl ?_
      refine r_iload_n (q := 53) dX6_copyFrom_52 rfl rfl rfl ?_
      refine r_aload_n (q := 54) dX6_copyFrom_53 rfl rfl rfl ?_
      refine r_getfield (q := 57) dX6_copyFrom_54 f_X6_copyFrom_25 ((xset_o hbg).trans ((xset_o hba).trans hu)) (by rfl) rfl ?_
      refine r_iload_n (q := 58) dX6_copyFrom_57 rfl rfl rfl ?_
      refine r_iaload (q := 59) dX6_copyFrom_58 ((xset_o hhg).trans ((xset_o hha).trans hh)) (vp_in_nI hj8 (by decide)) rfl ?_
      rw [nI_cl (by omega), if_pos hj8]
      refine r_iastore (q := 60) dX6_copyFrom_59 xset_s (vp_in_nI hj8 (by decide)) rfl ?_
      rw [nI_cl (by omega), gst_upd (by omega), xset_xset, cpF_s]
      refine r_iinc (q := 63) dX6_copyFrom_60 rfl (Nat.le_of_ble_eq_true rfl) (xone_of rfl) rfl ?_
      rw [show nI j + Int32.ofInt 1 = nI (j + 1) from nI_1 j]
      refine r_goto (q := 42) dX6_copyFrom_63 (by decide) ?_
      exact ih (j + 1) (by omega) hp (by omega)
set_option maxRecDepth 100000 in
set_option maxHeartbeats 4000000 in
theorem ct_X6_copyFrom {E : xE} {Po : xPo} {w : xW} {a g b h : Nat} {f f2 : Nat → Int32} (hw : w.1 a = some (tntE g f)) (hg : w.1 g = some (gstE E f)) (hu : w.1 b = some (tntE h f2)) (hh : w.1 h = some (gstE E f2)) (hag : a ≠ g) (hba : b ≠ a) (hbg : b ≠ g) (hha : h ≠ a) (hhg : h ≠ g) (hp : Po (.inl none) (xset (xset w a (tntE g f2)) g (gstE E f2))) : Ct M_X6_copyFrom E [.ref a, .ref b] w Po := by
  refine Ct.of (ws2 := xAll) (L := [some (.ref a), some (.ref b), none]) (by decide +kernel) rfl rfl (List.forall_mem_cons.mpr ⟨rfl, List.forall_mem_cons.mpr ⟨rfl, fun _ h => absurd h List.not_mem_nil⟩⟩) (Nat.le_of_ble_eq_true rfl) rfl ?_
  refine r_aload_n (q := 1) dX6_copyFrom_0 rfl rfl rfl ?_
  refine r_aload_n (q := 2) dX6_copyFrom_1 rfl rfl rfl ?_
  refine r_getfield (q := 5) dX6_copyFrom_2 f_X6_copyFrom_7 hu rfl rfl ?_
  refine r_putfield (q := 8) dX6_copyFrom_5 f_X6_copyFrom_7 hw rfl rfl (Nat.le_of_ble_eq_true rfl) rfl ?_
  refine r_aload_n (q := 9) dX6_copyFrom_8 rfl rfl rfl ?_
  refine r_aload_n (q := 10) dX6_copyFrom_9 rfl rfl rfl ?_
  refine r_getfield (q := 13) dX6_copyFrom_10 f_X6_copyFrom_13 ((xset_o hba).trans hu) (by rfl) rfl ?_
  refine r_putfield (q := 16) dX6_copyFrom_13 f_X6_copyFrom_13 xset_s rfl rfl (Nat.le_of_ble_eq_true rfl) rfl ?_
  rw [xset_xset]
  refine r_aload_n (q := 17) dX6_copyFrom_16 rfl rfl rfl ?_
  refine r_aload_n (q := 18) dX6_copyFrom_17 rfl rfl rfl ?_
  refine r_getfield (q := 21) dX6_copyFrom_18 f_X6_copyFrom_16 ((xset_o hba).trans hu) (by rfl) rfl ?_
  refine r_putfield (q := 24) dX6_copyFrom_21 f_X6_copyFrom_16 xset_s rfl rfl (Nat.le_of_ble_eq_true rfl) rfl ?_
  rw [xset_xset]
  refine r_aload_n (q := 25) dX6_copyFrom_24 rfl rfl rfl ?_
  refine r_aload_n (q := 26) dX6_copyFrom_25 rfl rfl rfl ?_
  refine r_getfield (q := 29) dX6_copyFrom_26 f_X6_copyFrom_19 ((xset_o hba).trans hu) (by rfl) rfl ?_
  refine r_putfield (q := 32) dX6_copyFrom_29 f_X6_copyFrom_19 xset_s rfl rfl (Nat.le_of_ble_eq_true rfl) rfl ?_
  rw [xset_xset]
  refine r_aload_n (q := 33) dX6_copyFrom_32 rfl rfl rfl ?_
  refine r_aload_n (q := 34) dX6_copyFrom_33 rfl rfl rfl ?_
  refine r_getfield (q := 37) dX6_copyFrom_34 f_X6_copyFrom_22 ((xset_o hba).trans hu) (by rfl) rfl ?_
  refine r_putfield (q := 40) dX6_copyFrom_37 f_X6_copyFrom_22 xset_s rfl rfl (Nat.le_of_ble_eq_true rfl) rfl ?_
  rw [xset_xset]
  refine r_iconst (q := 41) (v := 0) dX6_copyFrom_40 rfl rfl ?_
  refine r_istore_n (q := 42) dX6_copyFrom_41 rfl (Nat.le_of_ble_eq_true rfl) (xone_of rfl) rfl ?_
  have h9 := lp_X6_copyFrom (w0 := w) hw hg hu hh hag hba hbg hha hhg 7 0 (by omega) hp (by omega)
  rw [cpF_0, xset_id (show (xset w a (tntE g f2)).1 g = some (gstE E f) from (xset_o (Ne.symm hag)).trans hg)] at h9
  exact h9
