/-! ===== 72.law: the law (rows laid by wip/p39/gen/make72l.py) ===== -/
set_option maxRecDepth 100000 in
set_option maxHeartbeats 4000000 in
theorem ct_law {E : xE} {Po : xPo} {w0 : xW} (hL : E.2.2.2.1 ≤ 260) (hp : ∀ u : xW, Po (.inl (some (.int 1))) u) : WF M_L_law E Po w0 0 [some (.ref (E.2.2.1)), none] [] w0 0 0 := by
  have hN : E.2.2.2.1 < 2147483648 := by omega
  refine r_aload_n (q := 1) dL_law_0 rfl rfl rfl ?_
  refine r_callS (q := 4) (k2 := 0 + 1200) (n2 := 0 + 9000) (As := [_]) dL_law_1 s_L_law_163 rfl rfl (Nat.le_of_ble_eq_true rfl) rfl rfl rfl (show 0 + 1200 ≤ 759966 by omega) (show 0 + 9000 ≤ 6810963 by omega) ⟨(show 0 + 1200 ≤ 759966 by omega), (show 0 + 9000 ≤ 6810963 by omega)⟩ rfl ?_
  refine ct_L_drawn hN rfl (fun u x h H J G C B S => ?_)
  show WF _ E Po _ _ _ _ _ _ _
  refine r_astore_n (q := 5) dL_law_4 rfl (Nat.le_of_ble_eq_true rfl) (xone_of rfl) rfl ?_
  refine r_aload_n (q := 6) dL_law_5 rfl rfl rfl ?_
  refine r_ifnull (q := 9) dL_law_6 rfl ?_
  refine r_aload_n (q := 10) dL_law_9 rfl rfl rfl ?_
  refine r_callS (q := 13) (k2 := 0 + 1800) (n2 := 0 + 13000) (As := [_]) dL_law_10 s_L_law_167 rfl rfl (Nat.le_of_ble_eq_true rfl) rfl rfl rfl (show 0 + 1800 ≤ 759966 by omega) (show 0 + 13000 ≤ 6810963 by omega) ⟨(show 0 + 1800 ≤ 759966 by omega), (show 0 + 13000 ≤ 6810963 by omega)⟩ rfl ?_
  refine ct_L_sums (m := 60) J G (by decide) (by decide) H (fun u1 H1 F1 => ?_)
  show WF _ E Po _ _ _ _ _ _ _
  refine r_if_eq (q := 49) (q2 := 16) dL_law_13 (by decide) rfl (fun h9 => absurd h9 (by decide)) (fun _ => ?_)
  refine r_aload_n (q := 17) dL_law_16 rfl rfl rfl ?_
  refine r_callS (q := 20) (k2 := 0 + 3800) (n2 := 0 + 73000) (As := [_]) dL_law_17 s_L_law_171 rfl rfl (Nat.le_of_ble_eq_true rfl) rfl rfl rfl (show 0 + 3800 ≤ 759966 by omega) (show 0 + 73000 ≤ 6810963 by omega) ⟨(show 0 + 3800 ≤ 759966 by omega), (show 0 + 73000 ≤ 6810963 by omega)⟩ rfl ?_
  refine ct_L_tents J G (by decide) B H1 (fun u2 h2 H2 F2 e1 e2 => ?_)
  have J2 : J9 20000 (h2.1 0) := by rw [e1]; exact J
  have G2 : GQ 60 (h2.1 0) := by rw [e1]; exact G
  have C2 : CN h2 := by unfold CN at C ⊢; rw [e2]; exact C
  show WF _ E Po _ _ _ _ _ _ _
  refine r_if_eq (q := 49) (q2 := 23) dL_law_20 (by decide) rfl (fun h9 => absurd h9 (by decide)) (fun _ => ?_)
  refine r_aload_n (q := 24) dL_law_23 rfl rfl rfl ?_
  refine r_callS (q := 27) (k2 := 0 + 4800) (n2 := 0 + 79000) (As := [_]) dL_law_24 s_L_law_174 rfl rfl (Nat.le_of_ble_eq_true rfl) rfl rfl rfl (show 0 + 4800 ≤ 759966 by omega) (show 0 + 79000 ≤ 6810963 by omega) ⟨(show 0 + 4800 ≤ 759966 by omega), (show 0 + 79000 ≤ 6810963 by omega)⟩ rfl ?_
  refine ct_L_best (m := 60) J2 G2 (by decide) (by decide) H2 (fun u3 H3 F3 => ?_)
  show WF _ E Po _ _ _ _ _ _ _
  refine r_if_eq (q := 49) (q2 := 30) dL_law_27 (by decide) rfl (fun h9 => absurd h9 (by decide)) (fun _ => ?_)
  refine r_aload_n (q := 31) dL_law_30 rfl rfl rfl ?_
  refine r_callS (q := 34) (k2 := 0 + 16800) (n2 := 0 + 159000) (As := [_]) dL_law_31 s_L_law_177 rfl rfl (Nat.le_of_ble_eq_true rfl) rfl rfl rfl (show 0 + 16800 ≤ 759966 by omega) (show 0 + 159000 ≤ 6810963 by omega) ⟨(show 0 + 16800 ≤ 759966 by omega), (show 0 + 159000 ≤ 6810963 by omega)⟩ rfl ?_
  refine ct_L_ahead J2 G2 (Nat.le_refl _) (by decide) C2 H3 (fun u4 h4 H4 F4 e4 C4 => ?_)
  show WF _ E Po _ _ _ _ _ _ _
  refine r_if_eq (q := 49) (q2 := 37) dL_law_34 (by decide) rfl (fun h9 => absurd h9 (by decide)) (fun _ => ?_)
  refine r_aload_n (q := 38) dL_law_37 rfl rfl rfl ?_
  refine r_aload_n (q := 39) dL_law_38 rfl rfl rfl ?_
  refine r_callS (q := 42) (k2 := 0 + 28800) (n2 := 0 + 249000) (As := [_, _]) dL_law_39 s_L_law_180 rfl rfl (Nat.le_of_ble_eq_true rfl) rfl rfl rfl (show 0 + 28800 ≤ 759966 by omega) (show 0 + 249000 ≤ 6810963 by omega) ⟨(show 0 + 28800 ≤ 759966 by omega), (show 0 + 249000 ≤ 6810963 by omega)⟩ rfl ?_
  refine ct_L_undone hN (J2.eq e4) (by decide) C4 H4 S (fun u5 => ?_)
  show WF _ E Po _ _ _ _ _ _ _
  refine r_if_eq (q := 49) (q2 := 45) dL_law_42 (by decide) rfl (fun h9 => absurd h9 (by decide)) (fun _ => ?_)
  refine r_iconst (q := 46) (v := 1) dL_law_45 rfl rfl ?_
  refine r_goto (q := 50) dL_law_46 (by decide) ?_
  refine r_zret dL_law_50 rfl (by decide) (show 0 + 28800 ≤ 759966 by omega) (show 0 + 249000 ≤ 6810963 by omega) ?_
  exact hp _
