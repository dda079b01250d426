/-! ===== 32.heats: heatsIn, heatsAgain (rows laid by wip/p39/gen/make32.py) ===== -/
def rqW (Po : xPo) (w : xW) (z t : Int32) (P : Prop) : Prop := if z < 1 ∨ 3 < z then ∀ y, w.2 ≤ y → Po (.inr "java/lang/IllegalArgumentException") (w.1, y) else if t < 10 then ∀ y, w.2 ≤ y → Po (.inr "java/lang/IllegalArgumentException") (w.1, y) else if t ≤ 60 then P else ∀ y, w.2 ≤ y → Po (.inr "java/lang/IllegalArgumentException") (w.1, y)
theorem rqW.mono {P1 P2 : xPo} {w : xW} {z t : Int32} {A B : Prop} (h : rqW P1 w z t A) (h1 : ∀ X u, P1 (.inr X) u → P2 (.inr X) u) (h2 : A → B) : rqW P2 w z t B := by
  unfold rqW at h ⊢
  split at h
  · rename_i e; rw [if_pos e]; exact fun y hy => h1 _ _ (h y hy)
  · rename_i e; rw [if_neg e]
    split at h
    · rename_i e; rw [if_pos e]; exact fun y hy => h1 _ _ (h y hy)
    · rename_i e; rw [if_neg e]
      split at h
      · rename_i e; rw [if_pos e]; exact h2 h
      · rename_i e; rw [if_neg e]; exact fun y hy => h1 _ _ (h y hy)
def hiF (z : Int32) : Nat → Int32 → Nat → Nat
  | 0, _, k => k
  | r + 1, s, k => if 38 ≤ s then k else hiF z r (heatS z s) (k + 1)
theorem hiF_ge {z s : Int32} {r k : Nat} (h : 38 ≤ s) : hiF z r s k = k := by
  cases r with
  | zero => rfl
  | succ r => exact if_pos h
set_option maxRecDepth 100000 in
set_option maxHeartbeats 4000000 in
theorem ct_X9_requireWater {E : xE} {Po : xPo} {w : xW} {z t : Int32} (hp : rqW Po w z t (Po (.inl none) w)) : Ct M_X9_requireWater E [.int z, .int t] w Po := by
  refine Ct.of (ws2 := xAll) (L := [some (.int z), some (.int t)]) (by decide +kernel) rfl rfl (List.forall_mem_cons.mpr ⟨rfl, List.forall_mem_cons.mpr ⟨rfl, fun _ h => absurd h List.not_mem_nil⟩⟩) (Nat.le_of_ble_eq_true rfl) rfl ?_
  unfold rqW at hp
  refine r_iload_n (q := 1) dX9_requireWater_0 rfl rfl rfl ?_
  refine r_callS (q := 4) (As := [_]) dX9_requireWater_1 s_X9_requireWater_324 rfl rfl (Nat.le_of_ble_eq_true rfl) rfl rfl rfl (Nat.le_of_ble_eq_true rfl) (Nat.le_of_ble_eq_true rfl) ⟨(Nat.le_of_ble_eq_true rfl), (Nat.le_of_ble_eq_true rfl)⟩ rfl ?_
  refine ct_X8_hasSize ?_
  show WF _ E Po _ _ _ _ _ _ _
  rcases Classical.em (z < 1 ∨ 3 < z) with e0 | e0
  · rw [if_pos e0] at hp ⊢
    refine r_if_eq (q := 19) (q2 := 7) dX9_requireWater_4 (by decide) rfl (fun _ => ?_) (fun h9 => absurd rfl h9)
    exact r_throwSW (i := 12) (by decide +kernel) th_nm (by decide) (fun _ h => List.mem_cons_of_mem _ h) th_IA tk_IA ti_IA rfl dX9_requireWater_19 dX9_requireWater_22 dX9_requireWater_23 dX9_requireWater_26 dX9_requireWater_29 rfl (Nat.le_of_ble_eq_true rfl) (Nat.le_of_ble_eq_true rfl) (Nat.le_of_ble_eq_true rfl) (Nat.le_of_ble_eq_true rfl) (Nat.le_of_ble_eq_true rfl) (Nat.le_of_ble_eq_true rfl) (hp)
  · rw [if_neg e0] at hp ⊢
    refine r_if_eq (q := 19) (q2 := 7) dX9_requireWater_4 (by decide) rfl (fun h9 => absurd h9 (by decide)) (fun _ => ?_)
    refine r_iload_n (q := 8) dX9_requireWater_7 rfl rfl rfl ?_
    refine r_bipush (q := 10) (v := 10) dX9_requireWater_8 (by decide) rfl ?_
    refine r_icmp_lt (q := 19) (q2 := 13) dX9_requireWater_10 (by decide) rfl (fun h10 => ?_) (fun h10 => ?_)
    · rw [if_pos h10] at hp
      exact r_throwSW (i := 12) (by decide +kernel) th_nm (by decide) (fun _ h => List.mem_cons_of_mem _ h) th_IA tk_IA ti_IA rfl dX9_requireWater_19 dX9_requireWater_22 dX9_requireWater_23 dX9_requireWater_26 dX9_requireWater_29 rfl (Nat.le_of_ble_eq_true rfl) (Nat.le_of_ble_eq_true rfl) (Nat.le_of_ble_eq_true rfl) (Nat.le_of_ble_eq_true rfl) (Nat.le_of_ble_eq_true rfl) (Nat.le_of_ble_eq_true rfl) (hp)
    · rw [if_neg h10] at hp
      refine r_iload_n (q := 14) dX9_requireWater_13 rfl rfl rfl ?_
      refine r_bipush (q := 16) (v := 60) dX9_requireWater_14 (by decide) rfl ?_
      refine r_icmp_le (q := 30) (q2 := 19) dX9_requireWater_16 (by decide) rfl (fun h16 => ?_) (fun h16 => ?_)
      · rw [if_pos h16] at hp
        refine r_vret dX9_requireWater_30 rfl (Nat.le_of_ble_eq_true rfl) (Nat.le_of_ble_eq_true rfl) ?_
        exact hp
      · rw [if_neg h16] at hp
        exact r_throwSW (i := 12) (by decide +kernel) th_nm (by decide) (fun _ h => List.mem_cons_of_mem _ h) th_IA tk_IA ti_IA rfl dX9_requireWater_19 dX9_requireWater_22 dX9_requireWater_23 dX9_requireWater_26 dX9_requireWater_29 rfl (Nat.le_of_ble_eq_true rfl) (Nat.le_of_ble_eq_true rfl) (Nat.le_of_ble_eq_true rfl) (Nat.le_of_ble_eq_true rfl) (Nat.le_of_ble_eq_true rfl) (Nat.le_of_ble_eq_true rfl) (hp)
set_option maxRecDepth 100000 in
set_option maxHeartbeats 4000000 in
theorem lp_X9_heatsIn {E : xE} {Po : xPo} {w0 w : xW} {x : Nat} {z t : Int32} (n : Nat) : ∀ (r : Nat) (s : Int32) (k : Nat) (hk : k + r = 60) (hp : Po (.inl (some (.int (nI (hiF z r s k))))) w) (hn : r < n), WF M_X9_heatsIn E Po w0 10 [some (.ref x), some (.int z), some (.int t), some (.int s), some (.int (nI k))] [] w 1 6 := by
  induction n with
  | zero => intro r s k hk hp hn; exact absurd hn (Nat.not_lt_zero _)
  | succ n ih =>
    intro r s k hk hp hn
    refine r_iload_n (q := 11) dX9_heatsIn_10 rfl rfl rfl ?_
    refine r_bipush (q := 13) (v := 38) dX9_heatsIn_11 (by decide) rfl ?_
    refine r_icmp_ge (q := 35) (q2 := 16) dX9_heatsIn_13 (by decide) rfl (fun h13 => ?_) (fun h13 => ?_)
    · rw [hiF_ge h13] at hp
      refine r_iload (q := 37) dX9_heatsIn_35 rfl rfl ?_
      refine r_iret dX9_heatsIn_37 rfl (Nat.le_of_ble_eq_true rfl) (Nat.le_of_ble_eq_true rfl) ?_
      exact hp
    · refine r_iload (q := 18) dX9_heatsIn_16 rfl rfl ?_
      refine r_bipush (q := 20) (v := 60) dX9_heatsIn_18 (by decide) rfl ?_
      refine r_icmp_ge (q := 35) (q2 := 23) dX9_heatsIn_20 (by decide) rfl (fun h20 => ?_) (fun h20 => ?_)
      · obtain rfl : r = 0 := by have := (nI_leI (a := 60) (by omega) (by omega)).mp h20; omega
        refine r_iload (q := 37) dX9_heatsIn_35 rfl rfl ?_
        refine r_iret dX9_heatsIn_37 rfl (Nat.le_of_ble_eq_true rfl) (Nat.le_of_ble_eq_true rfl) ?_
        exact hp
      · have h77 : ¬ 60 ≤ k := fun q => h20 ((nI_leI (a := 60) (by omega) (by omega)).mpr q)
        obtain ⟨r2, rfl⟩ : ∃ r2, r = r2 + 1 := ⟨r - 1, by omega⟩
        rw [hiF, if_neg h13] at hp
        refine r_iload_n (q := 24) dX9_heatsIn_23 rfl rfl rfl ?_
        refine r_iload_n (q := 25) dX9_heatsIn_24 rfl rfl rfl ?_
        refine r_callS (q := 28) (As := [_, _]) dX9_heatsIn_25 s_X9_heatsIn_177 rfl rfl (Nat.le_of_ble_eq_true rfl) rfl rfl rfl (Nat.le_of_ble_eq_true rfl) (Nat.le_of_ble_eq_true rfl) ⟨(Nat.le_of_ble_eq_true rfl), (Nat.le_of_ble_eq_true rfl)⟩ rfl ?_
        refine ct_X8_heated ?_
        show WF _ E Po _ _ _ _ _ _ _
        refine r_istore_n (q := 29) dX9_heatsIn_28 rfl (Nat.le_of_ble_eq_true rfl) (xone_of rfl) rfl ?_
        refine r_iinc (q := 32) dX9_heatsIn_29 rfl (Nat.le_of_ble_eq_true rfl) (xone_of rfl) rfl ?_
        rw [show nI k + Int32.ofInt 1 = nI (k + 1) from nI_1 k]
        refine r_goto (q := 10) dX9_heatsIn_32 (by decide) ?_
        exact ih r2 _ (k + 1) (by omega) hp (by omega)
set_option maxRecDepth 100000 in
set_option maxHeartbeats 4000000 in
theorem ct_X9_heatsIn {E : xE} {Po : xPo} {w : xW} {x : Nat} {z t : Int32} (hp : rqW Po w z t (Po (.inl (some (.int (nI (hiF z 60 t 0))))) w)) : Ct M_X9_heatsIn E [.ref x, .int z, .int t] w Po := by
  refine Ct.of (ws2 := xAll) (L := [some (.ref x), some (.int z), some (.int t), none, none]) (by decide +kernel) rfl rfl (List.forall_mem_cons.mpr ⟨rfl, List.forall_mem_cons.mpr ⟨rfl, List.forall_mem_cons.mpr ⟨rfl, fun _ h => absurd h List.not_mem_nil⟩⟩⟩) (Nat.le_of_ble_eq_true rfl) rfl ?_
  refine r_iload_n (q := 1) dX9_heatsIn_0 rfl rfl rfl ?_
  refine r_iload_n (q := 2) dX9_heatsIn_1 rfl rfl rfl ?_
  refine r_callS (q := 5) (As := [_, _]) dX9_heatsIn_2 s_X9_heatsIn_173 rfl rfl (Nat.le_of_ble_eq_true rfl) rfl rfl rfl (Nat.le_of_ble_eq_true rfl) (Nat.le_of_ble_eq_true rfl) ⟨(Nat.le_of_ble_eq_true rfl), (Nat.le_of_ble_eq_true rfl)⟩ rfl ?_
  refine ct_X9_requireWater (hp.mono (fun _ _ h => h) (fun hp => ?_))
  show WF _ E Po _ _ _ _ _ _ _
  refine r_iload_n (q := 6) dX9_heatsIn_5 rfl rfl rfl ?_
  refine r_istore_n (q := 7) dX9_heatsIn_6 rfl (Nat.le_of_ble_eq_true rfl) (xone_of rfl) rfl ?_
  refine r_iconst (q := 8) (v := 0) dX9_heatsIn_7 rfl rfl ?_
  refine r_istore (q := 10) dX9_heatsIn_8 (Nat.le_of_ble_eq_true rfl) (xone_of rfl) rfl ?_
  exact lp_X9_heatsIn 61 60 _ 0 (by omega) hp (by omega)
set_option maxRecDepth 100000 in
set_option maxHeartbeats 4000000 in
theorem ct_X9_heatsAgain {E : xE} {Po : xPo} {w : xW} {x : Nat} {z t : Int32} (hp : rqW Po w z t (Po (.inl (some (.int (if 38 - t ≤ 0 then 0 else if 0 < degS z then (38 - t + degS z - 1) / degS z else 0)))) w)) : Ct M_X9_heatsAgain E [.ref x, .int z, .int t] w Po := by
  refine Ct.of (ws2 := xAll) (L := [some (.ref x), some (.int z), some (.int t), none, none]) (by decide +kernel) rfl rfl (List.forall_mem_cons.mpr ⟨rfl, List.forall_mem_cons.mpr ⟨rfl, List.forall_mem_cons.mpr ⟨rfl, fun _ h => absurd h List.not_mem_nil⟩⟩⟩) (Nat.le_of_ble_eq_true rfl) rfl ?_
  refine r_iload_n (q := 1) dX9_heatsAgain_0 rfl rfl rfl ?_
  refine r_iload_n (q := 2) dX9_heatsAgain_1 rfl rfl rfl ?_
  refine r_callS (q := 5) (As := [_, _]) dX9_heatsAgain_2 s_X9_heatsAgain_173 rfl rfl (Nat.le_of_ble_eq_true rfl) rfl rfl rfl (Nat.le_of_ble_eq_true rfl) (Nat.le_of_ble_eq_true rfl) ⟨(Nat.le_of_ble_eq_true rfl), (Nat.le_of_ble_eq_true rfl)⟩ rfl ?_
  refine ct_X9_requireWater (hp.mono (fun _ _ h => h) (fun hp => ?_))
  show WF _ E Po _ _ _ _ _ _ _
  refine r_bipush (q := 7) (v := 38) dX9_heatsAgain_5 (by decide) rfl ?_
  refine r_iload_n (q := 8) dX9_heatsAgain_7 rfl rfl rfl ?_
  refine r_isub (q := 9) dX9_heatsAgain_8 rfl ?_
  refine r_istore_n (q := 10) dX9_heatsAgain_9 rfl (Nat.le_of_ble_eq_true rfl) (xone_of rfl) rfl ?_
  refine r_iload_n (q := 11) dX9_heatsAgain_10 rfl rfl rfl ?_
  refine r_callS (q := 14) (As := [_]) dX9_heatsAgain_11 s_X9_heatsAgain_180 rfl rfl (Nat.le_of_ble_eq_true rfl) rfl rfl rfl (Nat.le_of_ble_eq_true rfl) (Nat.le_of_ble_eq_true rfl) ⟨(Nat.le_of_ble_eq_true rfl), (Nat.le_of_ble_eq_true rfl)⟩ rfl ?_
  refine ct_X8_degreesAnHour ?_
  show WF _ E Po _ _ _ _ _ _ _
  refine r_istore (q := 16) dX9_heatsAgain_14 (Nat.le_of_ble_eq_true rfl) (xone_of rfl) rfl ?_
  refine r_iload_n (q := 17) dX9_heatsAgain_16 rfl rfl rfl ?_
  refine r_if_le (q := 25) (q2 := 20) dX9_heatsAgain_17 (by decide) rfl (fun h17 => ?_) (fun h17 => ?_)
  · rw [if_pos h17] at hp
    refine r_iconst (q := 26) (v := 0) dX9_heatsAgain_25 rfl rfl ?_
    refine r_goto (q := 38) dX9_heatsAgain_26 (by decide) ?_
    refine r_iret dX9_heatsAgain_38 rfl (Nat.le_of_ble_eq_true rfl) (Nat.le_of_ble_eq_true rfl) ?_
    exact hp
  · rw [if_neg h17] at hp
    refine r_iload (q := 22) dX9_heatsAgain_20 rfl rfl ?_
    refine r_if_gt (q := 29) (q2 := 25) dX9_heatsAgain_22 (by decide) rfl (fun h22 => ?_) (fun h22 => ?_)
    · rw [if_pos h22] at hp
      refine r_iload_n (q := 30) dX9_heatsAgain_29 rfl rfl rfl ?_
      refine r_iload (q := 32) dX9_heatsAgain_30 rfl rfl ?_
      refine r_iadd (q := 33) dX9_heatsAgain_32 rfl ?_
      refine r_iconst (q := 34) (v := 1) dX9_heatsAgain_33 rfl rfl ?_
      refine r_isub (q := 35) dX9_heatsAgain_34 rfl ?_
      refine r_iload (q := 37) dX9_heatsAgain_35 rfl rfl ?_
      refine r_idiv (q := 38) dX9_heatsAgain_37 (fun e => absurd h22 (by rw [e]; decide)) rfl ?_
      refine r_iret dX9_heatsAgain_38 rfl (Nat.le_of_ble_eq_true rfl) (Nat.le_of_ble_eq_true rfl) ?_
      exact hp
    · rw [if_neg h22] at hp
      refine r_iconst (q := 26) (v := 0) dX9_heatsAgain_25 rfl rfl ?_
      refine r_goto (q := 38) dX9_heatsAgain_26 (by decide) ?_
      refine r_iret dX9_heatsAgain_38 rfl (Nat.le_of_ble_eq_true rfl) (Nat.le_of_ble_eq_true rfl) ?_
      exact hp
