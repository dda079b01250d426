/-! ===== 12.store: a store's changes (rows laid by wip/p39/gen/store1.py) ===== -/
theorem WF.cw {M : xM} {E : xE} {Po : xPo} {w0 w w2 : xW} {pc : Nat} {L : List (Option Value)} {st : List Value} {k n : Nat} (h : w = w2) (kk : WF M E Po w0 pc L st w2 k n) : WF M E Po w0 pc L st w k n := by rw [h]; exact kk
theorem iteb {p : Prop} [Decidable p] : (if p then (0 : Int32) else 1) = 0 ↔ p := by
  by_cases h : p
  · simp [h]
  · simp [h]
theorem rf_in {n a d i : Nat} (h : i < n) : va_rf (if i < n then some (a + d * i) else none) = .ref (a + d * i) := by rw [if_pos h]; rfl
theorem ix_in {x : Int32} {n : Nat} (hn : n < 2147483648) (h0 : ¬ x < 0) (h1 : ¬ nI n ≤ x) : vp_in x n ∧ x.toNatClampNeg < n := by
  obtain ⟨j, hj, rfl⟩ := ixOf hn h0 h1
  exact ⟨vp_in_nI hj hn, by rw [nI_cl (by omega)]; exact hj⟩
abbrev okT (c : xCo) (t : Int32) : Prop := ¬ t < 0 ∧ ¬ c.1 1 ≤ t ∧ ¬ (8 : Int32) ≤ t
abbrev okU (c : xCo) (t : Int32) : Prop := ¬ t < 0 ∧ ¬ c.1 2 ≤ t ∧ ¬ (5 : Int32) ≤ t
abbrev okG (c : xCo) (t : Int32) : Prop := ¬ t < 0 ∧ ¬ c.1 3 ≤ t ∧ ¬ (4 : Int32) ≤ t
theorem okT.ix {c : xCo} {t : Int32} (h : okT c t) : ∃ j, j < 8 ∧ t = nI j := ixOf (by decide) h.1 h.2.2
theorem okU.ix {c : xCo} {t : Int32} (h : okU c t) : ∃ j, j < 5 ∧ t = nI j := ixOf (by decide) h.1 h.2.2
theorem okG.ix {c : xCo} {t : Int32} (h : okG c t) : ∃ j, j < 4 ∧ t = nI j := ixOf (by decide) h.1 h.2.2
/-- a refusal kept -/
def cR (c : xCo) (x y : Int32) : xCo := cS (cS c 10 x) 11 y
theorem ct_keepS {E : xE} {Po : xPo} {w : xW} {b : Nat} {c : xCo} {x y : Int32} (hp : Po (.inl (some (.int (-1)))) (sto E w b (cR c x y))) : Ct M_X4_keep E [.ref (b + 1), .int x, .int y] (sto E w b c) Po := by
  refine ct_X4_keep sto_g1 ?_
  have h1 : xset (sto E w b c) (b + 1) (rfsE (upd (upd c.1 10 x) 11 y)) = sto E w b (cR c x y) := by
    rw [← xset_xset (e := rfsE (upd c.1 10 x)), sto_p1 (by decide)]
    exact sto_p1 (c := cS c 10 x) (k := 11) (by decide)
  rw [h1]
  exact hp
set_option maxRecDepth 100000 in
set_option maxHeartbeats 4000000 in
theorem ct_X5_tubAt_in {E : xE} {Po : xPo} {w : xW} {b j : Nat} {c : xCo} (hj : j < 8) (h : okT c (nI j)) (hp : Po (.inl (some (.ref (b + 5 + j)))) (sto E w b c)) : Ct M_X5_tubAt E [.ref b, .int (nI j)] (sto E w b c) Po := by
  refine Ct.of (ws2 := xAll) (L := [some (.ref b), some (.int (nI j))]) (by decide +kernel) rfl rfl (List.forall_mem_cons.mpr ⟨rfl, List.forall_mem_cons.mpr ⟨rfl, fun _ h => absurd h List.not_mem_nil⟩⟩) (Nat.le_of_ble_eq_true rfl) rfl ?_
  refine r_iload_n (q := 1) dX5_tubAt_0 rfl rfl rfl ?_
  refine r_if_lt (q := 27) (q2 := 4) dX5_tubAt_1 (by decide) rfl (fun h9 => absurd h9 h.1) (fun _ => ?_)
  refine r_iload_n (q := 5) dX5_tubAt_4 rfl rfl rfl ?_
  refine r_aload_n (q := 6) dX5_tubAt_5 rfl rfl rfl ?_
  refine r_getfield (q := 9) dX5_tubAt_6 f_X5_tubAt_34 sto_g0 rfl rfl ?_
  refine r_icmp_ge (q := 27) (q2 := 12) dX5_tubAt_9 (by decide) rfl (fun h9 => absurd h9 h.2.1) (fun _ => ?_)
  refine r_iload_n (q := 13) dX5_tubAt_12 rfl rfl rfl ?_
  refine r_bipush (q := 15) (v := 8) dX5_tubAt_13 (by decide) rfl ?_
  refine r_icmp_ge (q := 27) (q2 := 18) dX5_tubAt_15 (by decide) rfl (fun h9 => absurd h9 h.2.2) (fun _ => ?_)
  refine r_aload_n (q := 19) dX5_tubAt_18 rfl rfl rfl ?_
  refine r_getfield (q := 22) dX5_tubAt_19 f_X5_tubAt_18 sto_g0 rfl rfl ?_
  refine r_iload_n (q := 23) dX5_tubAt_22 rfl rfl rfl ?_
  refine r_aaload (q := 24) (t0 := 2) dX5_tubAt_23 rfl sto_g2 (vp_in_nI hj (by decide)) rfl ?_
  rw [nI_cl (by omega), rf_in hj, Nat.one_mul]
  refine r_goto (q := 28) dX5_tubAt_24 (by decide) ?_
  refine r_aret dX5_tubAt_28 rfl (Or.inr ⟨_, rfl⟩) (Nat.le_of_ble_eq_true rfl) (Nat.le_of_ble_eq_true rfl) ?_
  exact hp
set_option maxRecDepth 100000 in
set_option maxHeartbeats 4000000 in
theorem ct_X5_tubAt_out {E : xE} {Po : xPo} {w : xW} {b : Nat} {c : xCo} {t : Int32} (h : ¬ okT c t) (hp : Po (.inl (some .null)) (sto E w b c)) : Ct M_X5_tubAt E [.ref b, .int t] (sto E w b c) Po := by
  refine Ct.of (ws2 := xAll) (L := [some (.ref b), some (.int t)]) (by decide +kernel) rfl rfl (List.forall_mem_cons.mpr ⟨rfl, List.forall_mem_cons.mpr ⟨rfl, fun _ h => absurd h List.not_mem_nil⟩⟩) (Nat.le_of_ble_eq_true rfl) rfl ?_
  refine r_iload_n (q := 1) dX5_tubAt_0 rfl rfl rfl ?_
  refine r_if_lt (q := 27) (q2 := 4) dX5_tubAt_1 (by decide) rfl (fun h1 => ?_) (fun h1 => ?_)
  · refine r_null (q := 28) dX5_tubAt_27 rfl ?_
    refine r_aret dX5_tubAt_28 rfl (Or.inl rfl) (Nat.le_of_ble_eq_true rfl) (Nat.le_of_ble_eq_true rfl) ?_
    exact hp
  · refine r_iload_n (q := 5) dX5_tubAt_4 rfl rfl rfl ?_
    refine r_aload_n (q := 6) dX5_tubAt_5 rfl rfl rfl ?_
    refine r_getfield (q := 9) dX5_tubAt_6 f_X5_tubAt_34 sto_g0 rfl rfl ?_
    refine r_icmp_ge (q := 27) (q2 := 12) dX5_tubAt_9 (by decide) rfl (fun h9 => ?_) (fun h9 => ?_)
    · refine r_null (q := 28) dX5_tubAt_27 rfl ?_
      refine r_aret dX5_tubAt_28 rfl (Or.inl rfl) (Nat.le_of_ble_eq_true rfl) (Nat.le_of_ble_eq_true rfl) ?_
      exact hp
    · refine r_iload_n (q := 13) dX5_tubAt_12 rfl rfl rfl ?_
      refine r_bipush (q := 15) (v := 8) dX5_tubAt_13 (by decide) rfl ?_
      refine r_icmp_ge (q := 27) (q2 := 18) dX5_tubAt_15 (by decide) rfl (fun h15 => ?_) (fun h15 => ?_)
      · refine r_null (q := 28) dX5_tubAt_27 rfl ?_
        refine r_aret dX5_tubAt_28 rfl (Or.inl rfl) (Nat.le_of_ble_eq_true rfl) (Nat.le_of_ble_eq_true rfl) ?_
        exact hp
      · exact absurd ⟨h1, h9, h15⟩ h
set_option maxRecDepth 100000 in
set_option maxHeartbeats 4000000 in
theorem ct_X5_tentAt_in {E : xE} {Po : xPo} {w : xW} {b j : Nat} {c : xCo} (hj : j < 5) (h : okU c (nI j)) (hp : Po (.inl (some (.ref (b + 13 + 2 * j)))) (sto E w b c)) : Ct M_X5_tentAt E [.ref b, .int (nI j)] (sto E w b c) Po := by
  refine Ct.of (ws2 := xAll) (L := [some (.ref b), some (.int (nI j))]) (by decide +kernel) rfl rfl (List.forall_mem_cons.mpr ⟨rfl, List.forall_mem_cons.mpr ⟨rfl, fun _ h => absurd h List.not_mem_nil⟩⟩) (Nat.le_of_ble_eq_true rfl) rfl ?_
  refine r_iload_n (q := 1) dX5_tentAt_0 rfl rfl rfl ?_
  refine r_if_lt (q := 26) (q2 := 4) dX5_tentAt_1 (by decide) rfl (fun h9 => absurd h9 h.1) (fun _ => ?_)
  refine r_iload_n (q := 5) dX5_tentAt_4 rfl rfl rfl ?_
  refine r_aload_n (q := 6) dX5_tentAt_5 rfl rfl rfl ?_
  refine r_getfield (q := 9) dX5_tentAt_6 f_X5_tentAt_38 sto_g0 rfl rfl ?_
  refine r_icmp_ge (q := 26) (q2 := 12) dX5_tentAt_9 (by decide) rfl (fun h9 => absurd h9 h.2.1) (fun _ => ?_)
  refine r_iload_n (q := 13) dX5_tentAt_12 rfl rfl rfl ?_
  refine r_iconst (q := 14) (v := 5) dX5_tentAt_13 rfl rfl ?_
  refine r_icmp_ge (q := 26) (q2 := 17) dX5_tentAt_14 (by decide) rfl (fun h9 => absurd h9 h.2.2) (fun _ => ?_)
  refine r_aload_n (q := 18) dX5_tentAt_17 rfl rfl rfl ?_
  refine r_getfield (q := 21) dX5_tentAt_18 f_X5_tentAt_24 sto_g0 rfl rfl ?_
  refine r_iload_n (q := 22) dX5_tentAt_21 rfl rfl rfl ?_
  refine r_aaload (q := 23) (t0 := 3) dX5_tentAt_22 rfl sto_g3 (vp_in_nI hj (by decide)) rfl ?_
  rw [nI_cl (by omega), rf_in hj]
  refine r_goto (q := 27) dX5_tentAt_23 (by decide) ?_
  refine r_aret dX5_tentAt_27 rfl (Or.inr ⟨_, rfl⟩) (Nat.le_of_ble_eq_true rfl) (Nat.le_of_ble_eq_true rfl) ?_
  exact hp
set_option maxRecDepth 100000 in
set_option maxHeartbeats 4000000 in
theorem ct_X5_tentAt_out {E : xE} {Po : xPo} {w : xW} {b : Nat} {c : xCo} {t : Int32} (h : ¬ okU c t) (hp : Po (.inl (some .null)) (sto E w b c)) : Ct M_X5_tentAt E [.ref b, .int t] (sto E w b c) Po := by
  refine Ct.of (ws2 := xAll) (L := [some (.ref b), some (.int t)]) (by decide +kernel) rfl rfl (List.forall_mem_cons.mpr ⟨rfl, List.forall_mem_cons.mpr ⟨rfl, fun _ h => absurd h List.not_mem_nil⟩⟩) (Nat.le_of_ble_eq_true rfl) rfl ?_
  refine r_iload_n (q := 1) dX5_tentAt_0 rfl rfl rfl ?_
  refine r_if_lt (q := 26) (q2 := 4) dX5_tentAt_1 (by decide) rfl (fun h1 => ?_) (fun h1 => ?_)
  · refine r_null (q := 27) dX5_tentAt_26 rfl ?_
    refine r_aret dX5_tentAt_27 rfl (Or.inl rfl) (Nat.le_of_ble_eq_true rfl) (Nat.le_of_ble_eq_true rfl) ?_
    exact hp
  · refine r_iload_n (q := 5) dX5_tentAt_4 rfl rfl rfl ?_
    refine r_aload_n (q := 6) dX5_tentAt_5 rfl rfl rfl ?_
    refine r_getfield (q := 9) dX5_tentAt_6 f_X5_tentAt_38 sto_g0 rfl rfl ?_
    refine r_icmp_ge (q := 26) (q2 := 12) dX5_tentAt_9 (by decide) rfl (fun h9 => ?_) (fun h9 => ?_)
    · refine r_null (q := 27) dX5_tentAt_26 rfl ?_
      refine r_aret dX5_tentAt_27 rfl (Or.inl rfl) (Nat.le_of_ble_eq_true rfl) (Nat.le_of_ble_eq_true rfl) ?_
      exact hp
    · refine r_iload_n (q := 13) dX5_tentAt_12 rfl rfl rfl ?_
      refine r_iconst (q := 14) (v := 5) dX5_tentAt_13 rfl rfl ?_
      refine r_icmp_ge (q := 26) (q2 := 17) dX5_tentAt_14 (by decide) rfl (fun h14 => ?_) (fun h14 => ?_)
      · refine r_null (q := 27) dX5_tentAt_26 rfl ?_
        refine r_aret dX5_tentAt_27 rfl (Or.inl rfl) (Nat.le_of_ble_eq_true rfl) (Nat.le_of_ble_eq_true rfl) ?_
        exact hp
      · exact absurd ⟨h1, h9, h14⟩ h
set_option maxRecDepth 100000 in
set_option maxHeartbeats 4000000 in
theorem ct_X5_heaterAt_in {E : xE} {Po : xPo} {w : xW} {b j : Nat} {c : xCo} (hj : j < 4) (h : okG c (nI j)) (hp : Po (.inl (some (.ref (b + 23 + j)))) (sto E w b c)) : Ct M_X5_heaterAt E [.ref b, .int (nI j)] (sto E w b c) Po := by
  refine Ct.of (ws2 := xAll) (L := [some (.ref b), some (.int (nI j))]) (by decide +kernel) rfl rfl (List.forall_mem_cons.mpr ⟨rfl, List.forall_mem_cons.mpr ⟨rfl, fun _ h => absurd h List.not_mem_nil⟩⟩) (Nat.le_of_ble_eq_true rfl) rfl ?_
  refine r_iload_n (q := 1) dX5_heaterAt_0 rfl rfl rfl ?_
  refine r_if_lt (q := 26) (q2 := 4) dX5_heaterAt_1 (by decide) rfl (fun h9 => absurd h9 h.1) (fun _ => ?_)
  refine r_iload_n (q := 5) dX5_heaterAt_4 rfl rfl rfl ?_
  refine r_aload_n (q := 6) dX5_heaterAt_5 rfl rfl rfl ?_
  refine r_getfield (q := 9) dX5_heaterAt_6 f_X5_heaterAt_41 sto_g0 rfl rfl ?_
  refine r_icmp_ge (q := 26) (q2 := 12) dX5_heaterAt_9 (by decide) rfl (fun h9 => absurd h9 h.2.1) (fun _ => ?_)
  refine r_iload_n (q := 13) dX5_heaterAt_12 rfl rfl rfl ?_
  refine r_iconst (q := 14) (v := 4) dX5_heaterAt_13 rfl rfl ?_
  refine r_icmp_ge (q := 26) (q2 := 17) dX5_heaterAt_14 (by decide) rfl (fun h9 => absurd h9 h.2.2) (fun _ => ?_)
  refine r_aload_n (q := 18) dX5_heaterAt_17 rfl rfl rfl ?_
  refine r_getfield (q := 21) dX5_heaterAt_18 f_X5_heaterAt_30 sto_g0 rfl rfl ?_
  refine r_iload_n (q := 22) dX5_heaterAt_21 rfl rfl rfl ?_
  refine r_aaload (q := 23) (t0 := 4) dX5_heaterAt_22 rfl sto_g4 (vp_in_nI hj (by decide)) rfl ?_
  rw [nI_cl (by omega), rf_in hj, Nat.one_mul]
  refine r_goto (q := 27) dX5_heaterAt_23 (by decide) ?_
  refine r_aret dX5_heaterAt_27 rfl (Or.inr ⟨_, rfl⟩) (Nat.le_of_ble_eq_true rfl) (Nat.le_of_ble_eq_true rfl) ?_
  exact hp
set_option maxRecDepth 100000 in
set_option maxHeartbeats 4000000 in
theorem ct_X5_heaterAt_out {E : xE} {Po : xPo} {w : xW} {b : Nat} {c : xCo} {t : Int32} (h : ¬ okG c t) (hp : Po (.inl (some .null)) (sto E w b c)) : Ct M_X5_heaterAt E [.ref b, .int t] (sto E w b c) Po := by
  refine Ct.of (ws2 := xAll) (L := [some (.ref b), some (.int t)]) (by decide +kernel) rfl rfl (List.forall_mem_cons.mpr ⟨rfl, List.forall_mem_cons.mpr ⟨rfl, fun _ h => absurd h List.not_mem_nil⟩⟩) (Nat.le_of_ble_eq_true rfl) rfl ?_
  refine r_iload_n (q := 1) dX5_heaterAt_0 rfl rfl rfl ?_
  refine r_if_lt (q := 26) (q2 := 4) dX5_heaterAt_1 (by decide) rfl (fun h1 => ?_) (fun h1 => ?_)
  · refine r_null (q := 27) dX5_heaterAt_26 rfl ?_
    refine r_aret dX5_heaterAt_27 rfl (Or.inl rfl) (Nat.le_of_ble_eq_true rfl) (Nat.le_of_ble_eq_true rfl) ?_
    exact hp
  · refine r_iload_n (q := 5) dX5_heaterAt_4 rfl rfl rfl ?_
    refine r_aload_n (q := 6) dX5_heaterAt_5 rfl rfl rfl ?_
    refine r_getfield (q := 9) dX5_heaterAt_6 f_X5_heaterAt_41 sto_g0 rfl rfl ?_
    refine r_icmp_ge (q := 26) (q2 := 12) dX5_heaterAt_9 (by decide) rfl (fun h9 => ?_) (fun h9 => ?_)
    · refine r_null (q := 27) dX5_heaterAt_26 rfl ?_
      refine r_aret dX5_heaterAt_27 rfl (Or.inl rfl) (Nat.le_of_ble_eq_true rfl) (Nat.le_of_ble_eq_true rfl) ?_
      exact hp
    · refine r_iload_n (q := 13) dX5_heaterAt_12 rfl rfl rfl ?_
      refine r_iconst (q := 14) (v := 4) dX5_heaterAt_13 rfl rfl ?_
      refine r_icmp_ge (q := 26) (q2 := 17) dX5_heaterAt_14 (by decide) rfl (fun h14 => ?_) (fun h14 => ?_)
      · refine r_null (q := 27) dX5_heaterAt_26 rfl ?_
        refine r_aret dX5_heaterAt_27 rfl (Or.inl rfl) (Nat.le_of_ble_eq_true rfl) (Nat.le_of_ble_eq_true rfl) ?_
        exact hp
      · exact absurd ⟨h1, h9, h14⟩ h
