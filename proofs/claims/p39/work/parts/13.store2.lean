/-! ===== 13.store2: a store's changes (rows laid by wip/p39/gen/store2.py) ===== -/
def inC (c : xCo) : Prop := (∃ N, N ≤ 8 ∧ c.1 1 = nI N) ∧ (∃ N, N ≤ 5 ∧ c.1 2 = nI N) ∧ (∃ N, N ≤ 4 ∧ c.1 3 = nI N) ∧ ∀ u, u < 5 → ∃ m, m ≤ 6 ∧ c.2.2.1 u 4 = nI m
theorem sto_pT2 {E : xE} {w : xW} {b t k k2 : Nat} {c : xCo} {x y : Int32} (h : t < 8) : xset (sto E w b c) (b + 5 + t) (tubE (upd (upd (c.2.1 t) k x) k2 y)) = sto E w b (cT (cT c t k x) t k2 y) := by
  rw [← xset_xset (e := tubE (upd (c.2.1 t) k x)), sto_pT h]
  have e : upd (c.2.1 t) k x = (cT c t k x).2.1 t := by
    funext z
    by_cases hz : z = k
    · subst hz; rw [upd_s]; exact up2_s.symm
    · rw [upd_o hz]; exact (up2_2 hz).symm
  rw [e]
  exact sto_pT h
def addTubS (c : xCo) (z : Int32) : Int32 × xCo := if z < 1 ∨ 3 < z then (-3, c) else if c.1 1 < 0 then (-1, cR c 1 8) else if c.1 1 < 8 then (c.1 1, cS (cT c (c.1 1).toNatClampNeg 0 z) 1 (c.1 1 + 1)) else (-1, cR c 1 8)
def addTentS (c : xCo) (z : Int32) : Int32 × xCo := if z < 0 then (-3, c) else if z ≤ 9 then (if c.1 2 < 0 then (-1, cR c 1 5) else if c.1 2 < 5 then (c.1 2, cS (cU c (c.1 2).toNatClampNeg 0 z) 2 (c.1 2 + 1)) else (-1, cR c 1 5)) else (-3, c)
def addHeaterS (c : xCo) : Int32 × xCo := if c.1 3 < 4 then (c.1 3, cS c 3 (c.1 3 + 1)) else (-1, cR c 1 4)
def tearS (c : xCo) (t s : Int32) : Int32 × xCo := if okT c t then (if s < 0 ∨ 8 ≤ s then (-2, c) else (bcS (c.2.1 t.toNatClampNeg 2 ||| (1 : Int32) <<< (s &&& 31)), cT c t.toNatClampNeg 2 (c.2.1 t.toNatClampNeg 2 ||| (1 : Int32) <<< (s &&& 31)))) else (-2, c)
def mendS (c : xCo) (t s : Int32) : Int32 × xCo := if okT c t then (if s < 0 ∨ 8 ≤ s then (-2, c) else if c.2.1 t.toNatClampNeg 2 >>> (s &&& 31) &&& 1 = 0 then (-1, cR c 11 s) else if c.2.1 t.toNatClampNeg 3 ≤ 0 then (if 2 ≤ c.1 7 then (bcS (c.2.1 t.toNatClampNeg 2 &&& ((1 : Int32) <<< (s &&& 31) ^^^ -1)), cT (cS c 7 (c.1 7 - 2)) t.toNatClampNeg 2 (c.2.1 t.toNatClampNeg 2 &&& ((1 : Int32) <<< (s &&& 31) ^^^ -1))) else (-1, cR c 12 (2 - c.1 7))) else (-1, cR c 14 (c.2.1 t.toNatClampNeg 3))) else (-2, c)
def outS (c : xCo) (t u : Int32) : Int32 × xCo := if okT c t then (if okU c u then (if c.2.1 t.toNatClampNeg 1 < 0 then (if c.2.1 t.toNatClampNeg 2 = 0 then (if c.2.2.1 u.toNatClampNeg 1 < 0 then (c.1 7 + 2 * c.2.1 t.toNatClampNeg 0, cS (cU (cT c t.toNatClampNeg 1 u) u.toNatClampNeg 1 t) 7 (c.1 7 + 2 * c.2.1 t.toNatClampNeg 0)) else (-1, cR c 4 (c.2.2.1 u.toNatClampNeg 1))) else (-1, cR c 3 (tfS (c.2.1 t.toNatClampNeg 2) 8 0))) else (-1, cR c 2 (c.2.1 t.toNatClampNeg 1))) else (-2, c)) else (-2, c)
def backS (c : xCo) (t : Int32) : Int32 × xCo := if okT c t then (if okU c (c.2.1 t.toNatClampNeg 1) then (c.2.1 t.toNatClampNeg 3, cU (cT (cT (cT c t.toNatClampNeg 3 0) t.toNatClampNeg 5 0) t.toNatClampNeg 1 (-1)) (c.2.1 t.toNatClampNeg 1).toNatClampNeg 1 (-1)) else (-1, cR c 5 t)) else (-2, c)
def joinS (c : xCo) (t : Int32) : Int32 × xCo := if okU c t then (if c.2.2.1 t.toNatClampNeg 4 < 6 then (if 0 ≤ c.2.2.1 t.toNatClampNeg 1 then (if c.1 4 = 0 then (-1, cR c 10 (c.1 5)) else (c.1 8, cS (cU (cU (cS c 4 (c.1 4 - 1)) t.toNatClampNeg (5 + (c.2.2.1 t.toNatClampNeg 4).toNatClampNeg) (c.1 8)) t.toNatClampNeg 4 (c.2.2.1 t.toNatClampNeg 4 + 1)) 8 (c.1 8 + 1))) else (-1, cR c 6 t)) else (-1, cR c 1 6)) else (-2, c)
set_option maxRecDepth 100000 in
set_option maxHeartbeats 4000000 in
theorem ct_X5_isTooDear {E : xE} {Po : xPo} {w : xW} {b : Nat} {c : xCo} {x : Int32} (h0 : x ≤ c.1 7 → Po (.inl (some (.int 0))) (sto E w b c)) (h1 : ¬ x ≤ c.1 7 → Po (.inl (some (.int 1))) (sto E w b (cR c 12 (x - c.1 7)))) : Ct M_X5_isTooDear E [.ref b, .int x] (sto E w b c) Po := by
  refine Ct.of (ws2 := xAll) (L := [some (.ref b), some (.int x)]) (by decide +kernel) rfl rfl (List.forall_mem_cons.mpr ⟨rfl, List.forall_mem_cons.mpr ⟨rfl, fun _ h => absurd h List.not_mem_nil⟩⟩) (Nat.le_of_ble_eq_true rfl) rfl ?_
  refine r_iload_n (q := 1) dX5_isTooDear_0 rfl rfl rfl ?_
  refine r_aload_n (q := 2) dX5_isTooDear_1 rfl rfl rfl ?_
  refine r_getfield (q := 5) dX5_isTooDear_2 f_X5_isTooDear_62 sto_g0 rfl rfl ?_
  refine r_icmp_le (q := 26) (q2 := 8) dX5_isTooDear_5 (by decide) rfl (fun h5 => ?_) (fun h5 => ?_)
  · refine r_iconst (q := 27) (v := 0) dX5_isTooDear_26 rfl rfl ?_
    refine r_zret dX5_isTooDear_27 rfl (by decide) (Nat.le_of_ble_eq_true rfl) (Nat.le_of_ble_eq_true rfl) ?_
    exact h0 h5
  · refine r_aload_n (q := 9) dX5_isTooDear_8 rfl rfl rfl ?_
    refine r_getfield (q := 12) dX5_isTooDear_9 f_X5_isTooDear_10 sto_g0 rfl rfl ?_
    refine r_bipush (q := 14) (v := 12) dX5_isTooDear_12 (by decide) rfl ?_
    refine r_iload_n (q := 15) dX5_isTooDear_14 rfl rfl rfl ?_
    refine r_aload_n (q := 16) dX5_isTooDear_15 rfl rfl rfl ?_
    refine r_getfield (q := 19) dX5_isTooDear_16 f_X5_isTooDear_62 sto_g0 rfl rfl ?_
    refine r_isub (q := 20) dX5_isTooDear_19 rfl ?_
    refine r_callV (q := 23) (ci := 6) (As := [_, _]) dX5_isTooDear_20 s_X5_isTooDear_82 sto_g1 rfl rfl rfl (Nat.le_of_ble_eq_true rfl) rfl rfl rfl (Nat.le_of_ble_eq_true rfl) (Nat.le_of_ble_eq_true rfl) ⟨(Nat.le_of_ble_eq_true rfl), (Nat.le_of_ble_eq_true rfl)⟩ rfl ?_
    refine ct_keepS ?_
    refine r_pop (q := 24) dX5_isTooDear_23 rfl rfl ?_
    refine r_iconst (q := 25) (v := 1) dX5_isTooDear_24 rfl rfl ?_
    refine r_zret dX5_isTooDear_25 rfl (by decide) (Nat.le_of_ble_eq_true rfl) (Nat.le_of_ble_eq_true rfl) ?_
    exact h1 h5
set_option maxRecDepth 100000 in
set_option maxHeartbeats 4000000 in
theorem ct_X5_addTub {E : xE} {Po : xPo} {w : xW} {b : Nat} {c : xCo} {z : Int32} (hp : Po (.inl (some (.int (addTubS c z).1))) (sto E w b (addTubS c z).2)) : Ct M_X5_addTub E [.ref b, .int z] (sto E w b c) Po := by
  refine Ct.of (ws2 := xAll) (L := [some (.ref b), some (.int z)]) (by decide +kernel) rfl rfl (List.forall_mem_cons.mpr ⟨rfl, List.forall_mem_cons.mpr ⟨rfl, fun _ h => absurd h List.not_mem_nil⟩⟩) (Nat.le_of_ble_eq_true rfl) rfl ?_
  unfold addTubS at hp
  refine r_iload_n (q := 1) dX5_addTub_0 rfl rfl rfl ?_
  refine r_callS (q := 4) (As := [_]) dX5_addTub_1 s_X5_addTub_78 rfl rfl (Nat.le_of_ble_eq_true rfl) rfl rfl rfl (Nat.le_of_ble_eq_true rfl) (Nat.le_of_ble_eq_true rfl) ⟨(Nat.le_of_ble_eq_true rfl), (Nat.le_of_ble_eq_true rfl)⟩ rfl ?_
  refine ct_X8_hasSize ?_
  refine r_if_ne (q := 10) (q2 := 7) dX5_addTub_4 (by decide) rfl (fun h4 => ?_) (fun h4 => ?_)
  · rw [iteb] at h4
    rw [if_neg h4] at hp
    refine r_aload_n (q := 11) dX5_addTub_10 rfl rfl rfl ?_
    refine r_getfield (q := 14) dX5_addTub_11 f_X5_addTub_34 sto_g0 rfl rfl ?_
    refine r_if_lt (q := 26) (q2 := 17) dX5_addTub_14 (by decide) rfl (fun h14 => ?_) (fun h14 => ?_)
    · rw [if_pos h14] at hp
      refine r_aload_n (q := 27) dX5_addTub_26 rfl rfl rfl ?_
      refine r_getfield (q := 30) dX5_addTub_27 f_X5_addTub_10 sto_g0 rfl rfl ?_
      refine r_iconst (q := 31) (v := 1) dX5_addTub_30 rfl rfl ?_
      refine r_bipush (q := 33) (v := 8) dX5_addTub_31 (by decide) rfl ?_
      refine r_callV (q := 36) (ci := 6) (As := [_, _]) dX5_addTub_33 s_X5_addTub_82 sto_g1 rfl rfl rfl (Nat.le_of_ble_eq_true rfl) rfl rfl rfl (Nat.le_of_ble_eq_true rfl) (Nat.le_of_ble_eq_true rfl) ⟨(Nat.le_of_ble_eq_true rfl), (Nat.le_of_ble_eq_true rfl)⟩ rfl ?_
      refine ct_keepS ?_
      refine r_iret dX5_addTub_36 rfl (Nat.le_of_ble_eq_true rfl) (Nat.le_of_ble_eq_true rfl) ?_
      exact hp
    · rw [if_neg h14] at hp
      refine r_aload_n (q := 18) dX5_addTub_17 rfl rfl rfl ?_
      refine r_getfield (q := 21) dX5_addTub_18 f_X5_addTub_34 sto_g0 rfl rfl ?_
      refine r_bipush (q := 23) (v := 8) dX5_addTub_21 (by decide) rfl ?_
      refine r_icmp_lt (q := 37) (q2 := 26) dX5_addTub_23 (by decide) rfl (fun h23 => ?_) (fun h23 => ?_)
      · rw [if_pos h23] at hp
        obtain ⟨hv, hi⟩ := ix_in (n := 8) (by decide) h14 (Int32.not_le.mpr h23)
        refine r_aload_n (q := 38) dX5_addTub_37 rfl rfl rfl ?_
        refine r_getfield (q := 41) dX5_addTub_38 f_X5_addTub_18 sto_g0 rfl rfl ?_
        refine r_aload_n (q := 42) dX5_addTub_41 rfl rfl rfl ?_
        refine r_getfield (q := 45) dX5_addTub_42 f_X5_addTub_34 sto_g0 rfl rfl ?_
        refine r_aaload (q := 46) (t0 := 2) dX5_addTub_45 rfl sto_g2 hv rfl ?_
        rw [rf_in hi, Nat.one_mul]
        refine r_iload_n (q := 47) dX5_addTub_46 rfl rfl rfl ?_
        refine r_putfield (q := 50) dX5_addTub_47 f_X5_addTub_86 (sto_gT hi) rfl rfl (by exact Nat.le_of_ble_eq_true rfl) rfl ?_
        refine WF.cw (sto_pT (k := 0) hi) ?_
        refine r_aload_n (q := 51) dX5_addTub_50 rfl rfl rfl ?_
        refine r_dup (q := 52) dX5_addTub_51 rfl rfl ?_
        refine r_getfield (q := 55) dX5_addTub_52 f_X5_addTub_34 sto_g0 rfl rfl ?_
        refine r_dup_x1 (q := 56) dX5_addTub_55 rfl rfl rfl ?_
        refine r_iconst (q := 57) (v := 1) dX5_addTub_56 rfl rfl ?_
        refine r_iadd (q := 58) dX5_addTub_57 rfl ?_
        refine r_putfield (q := 61) dX5_addTub_58 f_X5_addTub_34 sto_g0 rfl rfl (Nat.le_of_ble_eq_true rfl) rfl ?_
        refine WF.cw (sto_p0 (k := 1) (by decide)) ?_
        refine r_iret dX5_addTub_61 rfl (Nat.le_of_ble_eq_true rfl) (Nat.le_of_ble_eq_true rfl) ?_
        exact hp
      · rw [if_neg h23] at hp
        refine r_aload_n (q := 27) dX5_addTub_26 rfl rfl rfl ?_
        refine r_getfield (q := 30) dX5_addTub_27 f_X5_addTub_10 sto_g0 rfl rfl ?_
        refine r_iconst (q := 31) (v := 1) dX5_addTub_30 rfl rfl ?_
        refine r_bipush (q := 33) (v := 8) dX5_addTub_31 (by decide) rfl ?_
        refine r_callV (q := 36) (ci := 6) (As := [_, _]) dX5_addTub_33 s_X5_addTub_82 sto_g1 rfl rfl rfl (Nat.le_of_ble_eq_true rfl) rfl rfl rfl (Nat.le_of_ble_eq_true rfl) (Nat.le_of_ble_eq_true rfl) ⟨(Nat.le_of_ble_eq_true rfl), (Nat.le_of_ble_eq_true rfl)⟩ rfl ?_
        refine ct_keepS ?_
        refine r_iret dX5_addTub_36 rfl (Nat.le_of_ble_eq_true rfl) (Nat.le_of_ble_eq_true rfl) ?_
        exact hp
  · rw [iteb] at h4
    rw [if_pos h4] at hp
    refine r_bipush (q := 9) (v := (-3)) dX5_addTub_7 (by decide) rfl ?_
    refine r_iret dX5_addTub_9 rfl (Nat.le_of_ble_eq_true rfl) (Nat.le_of_ble_eq_true rfl) ?_
    exact hp
set_option maxRecDepth 100000 in
set_option maxHeartbeats 4000000 in
theorem ct_X5_addTent {E : xE} {Po : xPo} {w : xW} {b : Nat} {c : xCo} {z : Int32} (hp : Po (.inl (some (.int (addTentS c z).1))) (sto E w b (addTentS c z).2)) : Ct M_X5_addTent E [.ref b, .int z] (sto E w b c) Po := by
  refine Ct.of (ws2 := xAll) (L := [some (.ref b), some (.int z)]) (by decide +kernel) rfl rfl (List.forall_mem_cons.mpr ⟨rfl, List.forall_mem_cons.mpr ⟨rfl, fun _ h => absurd h List.not_mem_nil⟩⟩) (Nat.le_of_ble_eq_true rfl) rfl ?_
  unfold addTentS at hp
  refine r_iload_n (q := 1) dX5_addTent_0 rfl rfl rfl ?_
  refine r_if_lt (q := 10) (q2 := 4) dX5_addTent_1 (by decide) rfl (fun h1 => ?_) (fun h1 => ?_)
  · rw [if_pos h1] at hp
    refine r_bipush (q := 12) (v := (-3)) dX5_addTent_10 (by decide) rfl ?_
    refine r_iret dX5_addTent_12 rfl (Nat.le_of_ble_eq_true rfl) (Nat.le_of_ble_eq_true rfl) ?_
    exact hp
  · rw [if_neg h1] at hp
    refine r_iload_n (q := 5) dX5_addTent_4 rfl rfl rfl ?_
    refine r_bipush (q := 7) (v := 9) dX5_addTent_5 (by decide) rfl ?_
    refine r_icmp_le (q := 13) (q2 := 10) dX5_addTent_7 (by decide) rfl (fun h7 => ?_) (fun h7 => ?_)
    · rw [if_pos h7] at hp
      refine r_aload_n (q := 14) dX5_addTent_13 rfl rfl rfl ?_
      refine r_getfield (q := 17) dX5_addTent_14 f_X5_addTent_38 sto_g0 rfl rfl ?_
      refine r_if_lt (q := 28) (q2 := 20) dX5_addTent_17 (by decide) rfl (fun h17 => ?_) (fun h17 => ?_)
      · rw [if_pos h17] at hp
        refine r_aload_n (q := 29) dX5_addTent_28 rfl rfl rfl ?_
        refine r_getfield (q := 32) dX5_addTent_29 f_X5_addTent_10 sto_g0 rfl rfl ?_
        refine r_iconst (q := 33) (v := 1) dX5_addTent_32 rfl rfl ?_
        refine r_iconst (q := 34) (v := 5) dX5_addTent_33 rfl rfl ?_
        refine r_callV (q := 37) (ci := 6) (As := [_, _]) dX5_addTent_34 s_X5_addTent_82 sto_g1 rfl rfl rfl (Nat.le_of_ble_eq_true rfl) rfl rfl rfl (Nat.le_of_ble_eq_true rfl) (Nat.le_of_ble_eq_true rfl) ⟨(Nat.le_of_ble_eq_true rfl), (Nat.le_of_ble_eq_true rfl)⟩ rfl ?_
        refine ct_keepS ?_
        refine r_iret dX5_addTent_37 rfl (Nat.le_of_ble_eq_true rfl) (Nat.le_of_ble_eq_true rfl) ?_
        exact hp
      · rw [if_neg h17] at hp
        refine r_aload_n (q := 21) dX5_addTent_20 rfl rfl rfl ?_
        refine r_getfield (q := 24) dX5_addTent_21 f_X5_addTent_38 sto_g0 rfl rfl ?_
        refine r_iconst (q := 25) (v := 5) dX5_addTent_24 rfl rfl ?_
        refine r_icmp_lt (q := 38) (q2 := 28) dX5_addTent_25 (by decide) rfl (fun h25 => ?_) (fun h25 => ?_)
        · rw [if_pos h25] at hp
          obtain ⟨hv, hi⟩ := ix_in (n := 5) (by decide) h17 (Int32.not_le.mpr h25)
          refine r_aload_n (q := 39) dX5_addTent_38 rfl rfl rfl ?_
          refine r_getfield (q := 42) dX5_addTent_39 f_X5_addTent_24 sto_g0 rfl rfl ?_
          refine r_aload_n (q := 43) dX5_addTent_42 rfl rfl rfl ?_
          refine r_getfield (q := 46) dX5_addTent_43 f_X5_addTent_38 sto_g0 rfl rfl ?_
          refine r_aaload (q := 47) (t0 := 3) dX5_addTent_46 rfl sto_g3 hv rfl ?_
          rw [rf_in hi]
          refine r_iload_n (q := 48) dX5_addTent_47 rfl rfl rfl ?_
          refine r_putfield (q := 51) dX5_addTent_48 f_X5_addTent_89 (sto_gU hi) rfl rfl (by exact Nat.le_of_ble_eq_true rfl) rfl ?_
          refine WF.cw (sto_pU (k := 0) hi (by decide)) ?_
          refine r_aload_n (q := 52) dX5_addTent_51 rfl rfl rfl ?_
          refine r_dup (q := 53) dX5_addTent_52 rfl rfl ?_
          refine r_getfield (q := 56) dX5_addTent_53 f_X5_addTent_38 sto_g0 rfl rfl ?_
          refine r_dup_x1 (q := 57) dX5_addTent_56 rfl rfl rfl ?_
          refine r_iconst (q := 58) (v := 1) dX5_addTent_57 rfl rfl ?_
          refine r_iadd (q := 59) dX5_addTent_58 rfl ?_
          refine r_putfield (q := 62) dX5_addTent_59 f_X5_addTent_38 sto_g0 rfl rfl (Nat.le_of_ble_eq_true rfl) rfl ?_
          refine WF.cw (sto_p0 (k := 2) (by decide)) ?_
          refine r_iret dX5_addTent_62 rfl (Nat.le_of_ble_eq_true rfl) (Nat.le_of_ble_eq_true rfl) ?_
          exact hp
        · rw [if_neg h25] at hp
          refine r_aload_n (q := 29) dX5_addTent_28 rfl rfl rfl ?_
          refine r_getfield (q := 32) dX5_addTent_29 f_X5_addTent_10 sto_g0 rfl rfl ?_
          refine r_iconst (q := 33) (v := 1) dX5_addTent_32 rfl rfl ?_
          refine r_iconst (q := 34) (v := 5) dX5_addTent_33 rfl rfl ?_
          refine r_callV (q := 37) (ci := 6) (As := [_, _]) dX5_addTent_34 s_X5_addTent_82 sto_g1 rfl rfl rfl (Nat.le_of_ble_eq_true rfl) rfl rfl rfl (Nat.le_of_ble_eq_true rfl) (Nat.le_of_ble_eq_true rfl) ⟨(Nat.le_of_ble_eq_true rfl), (Nat.le_of_ble_eq_true rfl)⟩ rfl ?_
          refine ct_keepS ?_
          refine r_iret dX5_addTent_37 rfl (Nat.le_of_ble_eq_true rfl) (Nat.le_of_ble_eq_true rfl) ?_
          exact hp
    · rw [if_neg h7] at hp
      refine r_bipush (q := 12) (v := (-3)) dX5_addTent_10 (by decide) rfl ?_
      refine r_iret dX5_addTent_12 rfl (Nat.le_of_ble_eq_true rfl) (Nat.le_of_ble_eq_true rfl) ?_
      exact hp
set_option maxRecDepth 100000 in
set_option maxHeartbeats 4000000 in
theorem ct_X5_addHeater {E : xE} {Po : xPo} {w : xW} {b : Nat} {c : xCo} (hp : Po (.inl (some (.int (addHeaterS c).1))) (sto E w b (addHeaterS c).2)) : Ct M_X5_addHeater E [.ref b] (sto E w b c) Po := by
  refine Ct.of (ws2 := xAll) (L := [some (.ref b)]) (by decide +kernel) rfl rfl (List.forall_mem_cons.mpr ⟨rfl, fun _ h => absurd h List.not_mem_nil⟩) (Nat.le_of_ble_eq_true rfl) rfl ?_
  unfold addHeaterS at hp
  refine r_aload_n (q := 1) dX5_addHeater_0 rfl rfl rfl ?_
  refine r_getfield (q := 4) dX5_addHeater_1 f_X5_addHeater_41 sto_g0 rfl rfl ?_
  refine r_iconst (q := 5) (v := 4) dX5_addHeater_4 rfl rfl ?_
  refine r_icmp_lt (q := 18) (q2 := 8) dX5_addHeater_5 (by decide) rfl (fun h5 => ?_) (fun h5 => ?_)
  · rw [if_pos h5] at hp
    refine r_aload_n (q := 19) dX5_addHeater_18 rfl rfl rfl ?_
    refine r_dup (q := 20) dX5_addHeater_19 rfl rfl ?_
    refine r_getfield (q := 23) dX5_addHeater_20 f_X5_addHeater_41 sto_g0 rfl rfl ?_
    refine r_dup_x1 (q := 24) dX5_addHeater_23 rfl rfl rfl ?_
    refine r_iconst (q := 25) (v := 1) dX5_addHeater_24 rfl rfl ?_
    refine r_iadd (q := 26) dX5_addHeater_25 rfl ?_
    refine r_putfield (q := 29) dX5_addHeater_26 f_X5_addHeater_41 sto_g0 rfl rfl (Nat.le_of_ble_eq_true rfl) rfl ?_
    refine WF.cw (sto_p0 (k := 3) (by decide)) ?_
    refine r_iret dX5_addHeater_29 rfl (Nat.le_of_ble_eq_true rfl) (Nat.le_of_ble_eq_true rfl) ?_
    exact hp
  · rw [if_neg h5] at hp
    refine r_aload_n (q := 9) dX5_addHeater_8 rfl rfl rfl ?_
    refine r_getfield (q := 12) dX5_addHeater_9 f_X5_addHeater_10 sto_g0 rfl rfl ?_
    refine r_iconst (q := 13) (v := 1) dX5_addHeater_12 rfl rfl ?_
    refine r_iconst (q := 14) (v := 4) dX5_addHeater_13 rfl rfl ?_
    refine r_callV (q := 17) (ci := 6) (As := [_, _]) dX5_addHeater_14 s_X5_addHeater_82 sto_g1 rfl rfl rfl (Nat.le_of_ble_eq_true rfl) rfl rfl rfl (Nat.le_of_ble_eq_true rfl) (Nat.le_of_ble_eq_true rfl) ⟨(Nat.le_of_ble_eq_true rfl), (Nat.le_of_ble_eq_true rfl)⟩ rfl ?_
    refine ct_keepS ?_
    refine r_iret dX5_addHeater_17 rfl (Nat.le_of_ble_eq_true rfl) (Nat.le_of_ble_eq_true rfl) ?_
    exact hp
set_option maxRecDepth 100000 in
set_option maxHeartbeats 4000000 in
theorem ct_X5_tearSeam {E : xE} {Po : xPo} {w : xW} {b : Nat} {c : xCo} {t s : Int32} (hp : Po (.inl (some (.int (tearS c t s).1))) (sto E w b (tearS c t s).2)) : Ct M_X5_tearSeam E [.ref b, .int t, .int s] (sto E w b c) Po := by
  refine Ct.of (ws2 := xAll) (L := [some (.ref b), some (.int t), some (.int s), none]) (by decide +kernel) rfl rfl (List.forall_mem_cons.mpr ⟨rfl, List.forall_mem_cons.mpr ⟨rfl, List.forall_mem_cons.mpr ⟨rfl, fun _ h => absurd h List.not_mem_nil⟩⟩⟩) (Nat.le_of_ble_eq_true rfl) rfl ?_
  unfold tearS at hp
  refine r_aload_n (q := 1) dX5_tearSeam_0 rfl rfl rfl ?_
  refine r_iload_n (q := 2) dX5_tearSeam_1 rfl rfl rfl ?_
  refine r_callV (q := 5) (ci := 7) (As := [_]) dX5_tearSeam_2 s_X5_tearSeam_92 sto_g0 rfl rfl rfl (Nat.le_of_ble_eq_true rfl) rfl rfl rfl (Nat.le_of_ble_eq_true rfl) (Nat.le_of_ble_eq_true rfl) ⟨(Nat.le_of_ble_eq_true rfl), (Nat.le_of_ble_eq_true rfl)⟩ rfl ?_
  by_cases ht : okT c t
  · rw [if_pos ht] at hp
    obtain ⟨j, hj, rfl⟩ := ht.ix
    rw [nI_cl (by omega)] at hp
    refine ct_X5_tubAt_in hj ht ?_
    refine r_astore_n (q := 6) dX5_tearSeam_5 rfl (Nat.le_of_ble_eq_true rfl) (xone_of rfl) rfl ?_
    refine r_aload_n (q := 7) dX5_tearSeam_6 rfl rfl rfl ?_
    refine r_ifnull (q := 10) dX5_tearSeam_7 rfl ?_
    refine r_iload_n (q := 11) dX5_tearSeam_10 rfl rfl rfl ?_
    refine r_callS (q := 14) (As := [_]) dX5_tearSeam_11 s_X5_tearSeam_96 rfl rfl (Nat.le_of_ble_eq_true rfl) rfl rfl rfl (Nat.le_of_ble_eq_true rfl) (Nat.le_of_ble_eq_true rfl) ⟨(Nat.le_of_ble_eq_true rfl), (Nat.le_of_ble_eq_true rfl)⟩ rfl ?_
    refine ct_X8_hasSeam ?_
    refine r_if_ne (q := 20) (q2 := 17) dX5_tearSeam_14 (by decide) rfl (fun h14 => ?_) (fun h14 => ?_)
    · rw [iteb] at h14
      rw [if_neg h14] at hp
      refine r_aload_n (q := 21) dX5_tearSeam_20 rfl rfl rfl ?_
      refine r_dup (q := 22) dX5_tearSeam_21 rfl rfl ?_
      refine r_getfield (q := 25) dX5_tearSeam_22 f_X5_tearSeam_99 (sto_gT hj) (by rfl) rfl ?_
      refine r_iconst (q := 26) (v := 1) dX5_tearSeam_25 rfl rfl ?_
      refine r_iload_n (q := 27) dX5_tearSeam_26 rfl rfl rfl ?_
      refine r_ishl (q := 28) dX5_tearSeam_27 rfl ?_
      refine r_ior (q := 29) dX5_tearSeam_28 rfl ?_
      refine r_putfield (q := 32) dX5_tearSeam_29 f_X5_tearSeam_99 (sto_gT hj) rfl rfl (by exact Nat.le_of_ble_eq_true rfl) rfl ?_
      refine WF.cw (sto_pT (k := 2) hj) ?_
      refine r_aload_n (q := 33) dX5_tearSeam_32 rfl rfl rfl ?_
      refine r_callV (q := 36) (ci := 10) (As := []) dX5_tearSeam_33 s_X5_tearSeam_102 (sto_gT hj) rfl rfl rfl (Nat.le_of_ble_eq_true rfl) rfl rfl rfl (Nat.le_of_ble_eq_true rfl) (Nat.le_of_ble_eq_true rfl) ⟨(Nat.le_of_ble_eq_true rfl), (Nat.le_of_ble_eq_true rfl)⟩ rfl ?_
      refine ct_X8_tornSeams (sto_gT hj) ?_
      refine r_iret dX5_tearSeam_36 rfl (Nat.le_of_ble_eq_true rfl) (Nat.le_of_ble_eq_true rfl) ?_
      simp only [cT, up2_s]; exact hp
    · rw [iteb] at h14
      rw [if_pos h14] at hp
      refine r_bipush (q := 19) (v := (-2)) dX5_tearSeam_17 (by decide) rfl ?_
      refine r_iret dX5_tearSeam_19 rfl (Nat.le_of_ble_eq_true rfl) (Nat.le_of_ble_eq_true rfl) ?_
      exact hp
  · rw [if_neg ht] at hp
    refine ct_X5_tubAt_out ht ?_
    refine r_astore_nN (q := 6) dX5_tearSeam_5 rfl (Nat.le_of_ble_eq_true rfl) (xone_of rfl) rfl ?_
    refine r_aload_nN (q := 7) dX5_tearSeam_6 rfl rfl rfl ?_
    refine r_ifnullN (q := 17) dX5_tearSeam_7 (by decide) ?_
    refine r_bipush (q := 19) (v := (-2)) dX5_tearSeam_17 (by decide) rfl ?_
    refine r_iret dX5_tearSeam_19 rfl (Nat.le_of_ble_eq_true rfl) (Nat.le_of_ble_eq_true rfl) ?_
    exact hp
set_option maxRecDepth 100000 in
set_option maxHeartbeats 4000000 in
theorem ct_X5_mendSeam {E : xE} {Po : xPo} {w : xW} {b : Nat} {c : xCo} {t s : Int32} (hp : Po (.inl (some (.int (mendS c t s).1))) (sto E w b (mendS c t s).2)) : Ct M_X5_mendSeam E [.ref b, .int t, .int s] (sto E w b c) Po := by
  refine Ct.of (ws2 := xAll) (L := [some (.ref b), some (.int t), some (.int s), none]) (by decide +kernel) rfl rfl (List.forall_mem_cons.mpr ⟨rfl, List.forall_mem_cons.mpr ⟨rfl, List.forall_mem_cons.mpr ⟨rfl, fun _ h => absurd h List.not_mem_nil⟩⟩⟩) (Nat.le_of_ble_eq_true rfl) rfl ?_
  unfold mendS at hp
  refine r_aload_n (q := 1) dX5_mendSeam_0 rfl rfl rfl ?_
  refine r_iload_n (q := 2) dX5_mendSeam_1 rfl rfl rfl ?_
  refine r_callV (q := 5) (ci := 7) (As := [_]) dX5_mendSeam_2 s_X5_mendSeam_92 sto_g0 rfl rfl rfl (Nat.le_of_ble_eq_true rfl) rfl rfl rfl (Nat.le_of_ble_eq_true rfl) (Nat.le_of_ble_eq_true rfl) ⟨(Nat.le_of_ble_eq_true rfl), (Nat.le_of_ble_eq_true rfl)⟩ rfl ?_
  by_cases ht : okT c t
  · rw [if_pos ht] at hp
    obtain ⟨j, hj, rfl⟩ := ht.ix
    rw [nI_cl (by omega)] at hp
    refine ct_X5_tubAt_in hj ht ?_
    refine r_astore_n (q := 6) dX5_mendSeam_5 rfl (Nat.le_of_ble_eq_true rfl) (xone_of rfl) rfl ?_
    refine r_aload_n (q := 7) dX5_mendSeam_6 rfl rfl rfl ?_
    refine r_ifnull (q := 10) dX5_mendSeam_7 rfl ?_
    refine r_iload_n (q := 11) dX5_mendSeam_10 rfl rfl rfl ?_
    refine r_callS (q := 14) (As := [_]) dX5_mendSeam_11 s_X5_mendSeam_96 rfl rfl (Nat.le_of_ble_eq_true rfl) rfl rfl rfl (Nat.le_of_ble_eq_true rfl) (Nat.le_of_ble_eq_true rfl) ⟨(Nat.le_of_ble_eq_true rfl), (Nat.le_of_ble_eq_true rfl)⟩ rfl ?_
    refine ct_X8_hasSeam ?_
    refine r_if_ne (q := 20) (q2 := 17) dX5_mendSeam_14 (by decide) rfl (fun h14 => ?_) (fun h14 => ?_)
    · rw [iteb] at h14
      rw [if_neg h14] at hp
      refine r_aload_n (q := 21) dX5_mendSeam_20 rfl rfl rfl ?_
      refine r_iload_n (q := 22) dX5_mendSeam_21 rfl rfl rfl ?_
      refine r_callV (q := 25) (ci := 10) (As := [_]) dX5_mendSeam_22 s_X5_mendSeam_106 (sto_gT hj) rfl rfl rfl (Nat.le_of_ble_eq_true rfl) rfl rfl rfl (Nat.le_of_ble_eq_true rfl) (Nat.le_of_ble_eq_true rfl) ⟨(Nat.le_of_ble_eq_true rfl), (Nat.le_of_ble_eq_true rfl)⟩ rfl ?_
      refine ct_X8_isTorn (sto_gT hj) ?_
      refine r_if_ne (q := 39) (q2 := 28) dX5_mendSeam_25 (by decide) rfl (fun h25 => ?_) (fun h25 => ?_)
      · rw [iteb] at h25
        rw [if_neg h25] at hp
        refine r_aload_n (q := 40) dX5_mendSeam_39 rfl rfl rfl ?_
        refine r_getfield (q := 43) dX5_mendSeam_40 f_X5_mendSeam_109 (sto_gT hj) (by rfl) rfl ?_
        refine r_if_le (q := 60) (q2 := 46) dX5_mendSeam_43 (by decide) rfl (fun h43 => ?_) (fun h43 => ?_)
        · rw [if_pos h43] at hp
          refine r_aload_n (q := 61) dX5_mendSeam_60 rfl rfl rfl ?_
          refine r_iconst (q := 62) (v := 2) dX5_mendSeam_61 rfl rfl ?_
          refine r_callV (q := 65) (ci := 7) (As := [_]) dX5_mendSeam_62 s_X5_mendSeam_112 sto_g0 rfl rfl rfl (Nat.le_of_ble_eq_true rfl) rfl rfl rfl (Nat.le_of_ble_eq_true rfl) (Nat.le_of_ble_eq_true rfl) ⟨(Nat.le_of_ble_eq_true rfl), (Nat.le_of_ble_eq_true rfl)⟩ rfl ?_
          refine ct_X5_isTooDear (fun h62 => ?_) (fun h62 => ?_)
          · rw [if_pos h62] at hp
            refine r_if_eq (q := 70) (q2 := 68) dX5_mendSeam_65 (by decide) rfl (fun _ => ?_) (fun h9 => absurd rfl h9)
            refine r_aload_n (q := 71) dX5_mendSeam_70 rfl rfl rfl ?_
            refine r_dup (q := 72) dX5_mendSeam_71 rfl rfl ?_
            refine r_getfield (q := 75) dX5_mendSeam_72 f_X5_mendSeam_62 sto_g0 rfl rfl ?_
            refine r_iconst (q := 76) (v := 2) dX5_mendSeam_75 rfl rfl ?_
            refine r_isub (q := 77) dX5_mendSeam_76 rfl ?_
            refine r_putfield (q := 80) dX5_mendSeam_77 f_X5_mendSeam_62 sto_g0 rfl rfl (Nat.le_of_ble_eq_true rfl) rfl ?_
            refine WF.cw (sto_p0 (k := 7) (by decide)) ?_
            refine r_aload_n (q := 81) dX5_mendSeam_80 rfl rfl rfl ?_
            refine r_dup (q := 82) dX5_mendSeam_81 rfl rfl ?_
            refine r_getfield (q := 85) dX5_mendSeam_82 f_X5_mendSeam_99 (sto_gT hj) (by rfl) rfl ?_
            refine r_iconst (q := 86) (v := 1) dX5_mendSeam_85 rfl rfl ?_
            refine r_iload_n (q := 87) dX5_mendSeam_86 rfl rfl rfl ?_
            refine r_ishl (q := 88) dX5_mendSeam_87 rfl ?_
            refine r_iconst (q := 89) (v := (-1)) dX5_mendSeam_88 rfl rfl ?_
            refine r_ixor (q := 90) dX5_mendSeam_89 rfl ?_
            refine r_iand (q := 91) dX5_mendSeam_90 rfl ?_
            refine r_putfield (q := 94) dX5_mendSeam_91 f_X5_mendSeam_99 (sto_gT hj) rfl rfl (by exact Nat.le_of_ble_eq_true rfl) rfl ?_
            refine WF.cw (sto_pT (k := 2) hj) ?_
            refine r_aload_n (q := 95) dX5_mendSeam_94 rfl rfl rfl ?_
            refine r_callV (q := 98) (ci := 10) (As := []) dX5_mendSeam_95 s_X5_mendSeam_102 (sto_gT hj) rfl rfl rfl (Nat.le_of_ble_eq_true rfl) rfl rfl rfl (Nat.le_of_ble_eq_true rfl) (Nat.le_of_ble_eq_true rfl) ⟨(Nat.le_of_ble_eq_true rfl), (Nat.le_of_ble_eq_true rfl)⟩ rfl ?_
            refine ct_X8_tornSeams (sto_gT hj) ?_
            refine r_iret dX5_mendSeam_98 rfl (Nat.le_of_ble_eq_true rfl) (Nat.le_of_ble_eq_true rfl) ?_
            simp only [cT, cS, up2_s]; exact hp
          · rw [if_neg h62] at hp
            refine r_if_eq (q := 70) (q2 := 68) dX5_mendSeam_65 (by decide) rfl (fun h9 => absurd h9 (by decide)) (fun _ => ?_)
            refine r_iconst (q := 69) (v := (-1)) dX5_mendSeam_68 rfl rfl ?_
            refine r_iret dX5_mendSeam_69 rfl (Nat.le_of_ble_eq_true rfl) (Nat.le_of_ble_eq_true rfl) ?_
            exact hp
        · rw [if_neg h43] at hp
          refine r_aload_n (q := 47) dX5_mendSeam_46 rfl rfl rfl ?_
          refine r_getfield (q := 50) dX5_mendSeam_47 f_X5_mendSeam_10 sto_g0 rfl rfl ?_
          refine r_bipush (q := 52) (v := 14) dX5_mendSeam_50 (by decide) rfl ?_
          refine r_aload_n (q := 53) dX5_mendSeam_52 rfl rfl rfl ?_
          refine r_getfield (q := 56) dX5_mendSeam_53 f_X5_mendSeam_109 (sto_gT hj) (by rfl) rfl ?_
          refine r_callV (q := 59) (ci := 6) (As := [_, _]) dX5_mendSeam_56 s_X5_mendSeam_82 sto_g1 rfl rfl rfl (Nat.le_of_ble_eq_true rfl) rfl rfl rfl (Nat.le_of_ble_eq_true rfl) (Nat.le_of_ble_eq_true rfl) ⟨(Nat.le_of_ble_eq_true rfl), (Nat.le_of_ble_eq_true rfl)⟩ rfl ?_
          refine ct_keepS ?_
          refine r_iret dX5_mendSeam_59 rfl (Nat.le_of_ble_eq_true rfl) (Nat.le_of_ble_eq_true rfl) ?_
          exact hp
      · rw [iteb] at h25
        rw [if_pos h25] at hp
        refine r_aload_n (q := 29) dX5_mendSeam_28 rfl rfl rfl ?_
        refine r_getfield (q := 32) dX5_mendSeam_29 f_X5_mendSeam_10 sto_g0 rfl rfl ?_
        refine r_bipush (q := 34) (v := 11) dX5_mendSeam_32 (by decide) rfl ?_
        refine r_iload_n (q := 35) dX5_mendSeam_34 rfl rfl rfl ?_
        refine r_callV (q := 38) (ci := 6) (As := [_, _]) dX5_mendSeam_35 s_X5_mendSeam_82 sto_g1 rfl rfl rfl (Nat.le_of_ble_eq_true rfl) rfl rfl rfl (Nat.le_of_ble_eq_true rfl) (Nat.le_of_ble_eq_true rfl) ⟨(Nat.le_of_ble_eq_true rfl), (Nat.le_of_ble_eq_true rfl)⟩ rfl ?_
        refine ct_keepS ?_
        refine r_iret dX5_mendSeam_38 rfl (Nat.le_of_ble_eq_true rfl) (Nat.le_of_ble_eq_true rfl) ?_
        exact hp
    · rw [iteb] at h14
      rw [if_pos h14] at hp
      refine r_bipush (q := 19) (v := (-2)) dX5_mendSeam_17 (by decide) rfl ?_
      refine r_iret dX5_mendSeam_19 rfl (Nat.le_of_ble_eq_true rfl) (Nat.le_of_ble_eq_true rfl) ?_
      exact hp
  · rw [if_neg ht] at hp
    refine ct_X5_tubAt_out ht ?_
    refine r_astore_nN (q := 6) dX5_mendSeam_5 rfl (Nat.le_of_ble_eq_true rfl) (xone_of rfl) rfl ?_
    refine r_aload_nN (q := 7) dX5_mendSeam_6 rfl rfl rfl ?_
    refine r_ifnullN (q := 17) dX5_mendSeam_7 (by decide) ?_
    refine r_bipush (q := 19) (v := (-2)) dX5_mendSeam_17 (by decide) rfl ?_
    refine r_iret dX5_mendSeam_19 rfl (Nat.le_of_ble_eq_true rfl) (Nat.le_of_ble_eq_true rfl) ?_
    exact hp
set_option maxRecDepth 100000 in
set_option maxHeartbeats 4000000 in
theorem ct_X5_goOut {E : xE} {Po : xPo} {w : xW} {b : Nat} {c : xCo} {t v : Int32} (hp : Po (.inl (some (.int (outS c t v).1))) (sto E w b (outS c t v).2)) : Ct M_X5_goOut E [.ref b, .int t, .int v] (sto E w b c) Po := by
  refine Ct.of (ws2 := xAll) (L := [some (.ref b), some (.int t), some (.int v), none, none]) (by decide +kernel) rfl rfl (List.forall_mem_cons.mpr ⟨rfl, List.forall_mem_cons.mpr ⟨rfl, List.forall_mem_cons.mpr ⟨rfl, fun _ h => absurd h List.not_mem_nil⟩⟩⟩) (Nat.le_of_ble_eq_true rfl) rfl ?_
  unfold outS at hp
  refine r_aload_n (q := 1) dX5_goOut_0 rfl rfl rfl ?_
  refine r_iload_n (q := 2) dX5_goOut_1 rfl rfl rfl ?_
  refine r_callV (q := 5) (ci := 7) (As := [_]) dX5_goOut_2 s_X5_goOut_92 sto_g0 rfl rfl rfl (Nat.le_of_ble_eq_true rfl) rfl rfl rfl (Nat.le_of_ble_eq_true rfl) (Nat.le_of_ble_eq_true rfl) ⟨(Nat.le_of_ble_eq_true rfl), (Nat.le_of_ble_eq_true rfl)⟩ rfl ?_
  by_cases ht : okT c t
  · rw [if_pos ht] at hp
    obtain ⟨j, hj, rfl⟩ := ht.ix
    rw [nI_cl (by omega)] at hp
    refine ct_X5_tubAt_in hj ht ?_
    refine r_astore_n (q := 6) dX5_goOut_5 rfl (Nat.le_of_ble_eq_true rfl) (xone_of rfl) rfl ?_
    refine r_aload_n (q := 7) dX5_goOut_6 rfl rfl rfl ?_
    refine r_iload_n (q := 8) dX5_goOut_7 rfl rfl rfl ?_
    refine r_callV (q := 11) (ci := 7) (As := [_]) dX5_goOut_8 s_X5_goOut_125 sto_g0 rfl rfl rfl (Nat.le_of_ble_eq_true rfl) rfl rfl rfl (Nat.le_of_ble_eq_true rfl) (Nat.le_of_ble_eq_true rfl) ⟨(Nat.le_of_ble_eq_true rfl), (Nat.le_of_ble_eq_true rfl)⟩ rfl ?_
    by_cases hk : okU c v
    · rw [if_pos hk] at hp
      obtain ⟨u, hu, rfl⟩ := hk.ix
      rw [nI_cl (by omega)] at hp
      refine ct_X5_tentAt_in hu hk ?_
      refine r_astore (q := 13) dX5_goOut_11 (Nat.le_of_ble_eq_true rfl) (xone_of rfl) rfl ?_
      refine r_aload_n (q := 14) dX5_goOut_13 rfl rfl rfl ?_
      refine r_ifnull (q := 17) dX5_goOut_14 rfl ?_
      refine r_aload (q := 19) dX5_goOut_17 rfl rfl ?_
      refine r_ifnonnull (q := 25) dX5_goOut_19 (by decide) ?_
      refine r_aload_n (q := 26) dX5_goOut_25 rfl rfl rfl ?_
      refine r_getfield (q := 29) dX5_goOut_26 f_X5_goOut_115 (sto_gT hj) (by rfl) rfl ?_
      refine r_if_lt (q := 45) (q2 := 32) dX5_goOut_29 (by decide) rfl (fun h29 => ?_) (fun h29 => ?_)
      · rw [if_pos h29] at hp
        refine r_aload_n (q := 46) dX5_goOut_45 rfl rfl rfl ?_
        refine r_getfield (q := 49) dX5_goOut_46 f_X5_goOut_99 (sto_gT hj) (by rfl) rfl ?_
        refine r_if_eq (q := 66) (q2 := 52) dX5_goOut_49 (by decide) rfl (fun h49 => ?_) (fun h49 => ?_)
        · rw [if_pos h49] at hp
          refine r_aload (q := 68) dX5_goOut_66 rfl rfl ?_
          refine r_getfield (q := 71) dX5_goOut_68 f_X5_goOut_133 (sto_gU hu) (by rfl) rfl ?_
          refine r_if_lt (q := 88) (q2 := 74) dX5_goOut_71 (by decide) rfl (fun h71 => ?_) (fun h71 => ?_)
          · rw [if_pos h71] at hp
            refine r_aload_n (q := 89) dX5_goOut_88 rfl rfl rfl ?_
            refine r_iload_n (q := 90) dX5_goOut_89 rfl rfl rfl ?_
            refine r_putfield (q := 93) dX5_goOut_90 f_X5_goOut_115 (sto_gT hj) rfl rfl (by exact Nat.le_of_ble_eq_true rfl) rfl ?_
            refine WF.cw (sto_pT (k := 1) hj) ?_
            refine r_aload (q := 95) dX5_goOut_93 rfl rfl ?_
            refine r_iload_n (q := 96) dX5_goOut_95 rfl rfl rfl ?_
            refine r_putfield (q := 99) dX5_goOut_96 f_X5_goOut_133 (sto_gU hu) rfl rfl (by exact Nat.le_of_ble_eq_true rfl) rfl ?_
            refine WF.cw (sto_pU (k := 1) hu (by decide)) ?_
            refine r_aload_n (q := 100) dX5_goOut_99 rfl rfl rfl ?_
            refine r_dup (q := 101) dX5_goOut_100 rfl rfl ?_
            refine r_getfield (q := 104) dX5_goOut_101 f_X5_goOut_62 sto_g0 rfl rfl ?_
            refine r_iconst (q := 105) (v := 2) dX5_goOut_104 rfl rfl ?_
            refine r_aload_n (q := 106) dX5_goOut_105 rfl rfl rfl ?_
            refine r_getfield (q := 109) dX5_goOut_106 f_X5_goOut_86 (sto_gT hj) (by rfl) rfl ?_
            refine r_imul (q := 110) dX5_goOut_109 rfl ?_
            refine r_iadd (q := 111) dX5_goOut_110 rfl ?_
            refine r_putfield (q := 114) dX5_goOut_111 f_X5_goOut_62 sto_g0 rfl rfl (Nat.le_of_ble_eq_true rfl) rfl ?_
            refine WF.cw (sto_p0 (k := 7) (by decide)) ?_
            refine r_aload_n (q := 115) dX5_goOut_114 rfl rfl rfl ?_
            refine r_getfield (q := 118) dX5_goOut_115 f_X5_goOut_62 sto_g0 rfl rfl ?_
            refine r_iret dX5_goOut_118 rfl (Nat.le_of_ble_eq_true rfl) (Nat.le_of_ble_eq_true rfl) ?_
            simp only [cS, cT, cU, upd_s, up2_2 (show (0 : Nat) ≠ 1 by decide)] at hp ⊢; exact hp
          · rw [if_neg h71] at hp
            refine r_aload_n (q := 75) dX5_goOut_74 rfl rfl rfl ?_
            refine r_getfield (q := 78) dX5_goOut_75 f_X5_goOut_10 sto_g0 rfl rfl ?_
            refine r_iconst (q := 79) (v := 4) dX5_goOut_78 rfl rfl ?_
            refine r_aload (q := 81) dX5_goOut_79 rfl rfl ?_
            refine r_getfield (q := 84) dX5_goOut_81 f_X5_goOut_133 (sto_gU hu) (by rfl) rfl ?_
            refine r_callV (q := 87) (ci := 6) (As := [_, _]) dX5_goOut_84 s_X5_goOut_82 sto_g1 rfl rfl rfl (Nat.le_of_ble_eq_true rfl) rfl rfl rfl (Nat.le_of_ble_eq_true rfl) (Nat.le_of_ble_eq_true rfl) ⟨(Nat.le_of_ble_eq_true rfl), (Nat.le_of_ble_eq_true rfl)⟩ rfl ?_
            refine ct_keepS ?_
            refine r_iret dX5_goOut_87 rfl (Nat.le_of_ble_eq_true rfl) (Nat.le_of_ble_eq_true rfl) ?_
            exact hp
        · rw [if_neg h49] at hp
          refine r_aload_n (q := 53) dX5_goOut_52 rfl rfl rfl ?_
          refine r_getfield (q := 56) dX5_goOut_53 f_X5_goOut_10 sto_g0 rfl rfl ?_
          refine r_iconst (q := 57) (v := 3) dX5_goOut_56 rfl rfl ?_
          refine r_aload_n (q := 58) dX5_goOut_57 rfl rfl rfl ?_
          refine r_iconst (q := 59) (v := 0) dX5_goOut_58 rfl rfl ?_
          refine r_callV (q := 62) (ci := 10) (As := [_]) dX5_goOut_59 s_X5_goOut_129 (sto_gT hj) rfl rfl rfl (Nat.le_of_ble_eq_true rfl) rfl rfl rfl (Nat.le_of_ble_eq_true rfl) (Nat.le_of_ble_eq_true rfl) ⟨(Nat.le_of_ble_eq_true rfl), (Nat.le_of_ble_eq_true rfl)⟩ rfl ?_
          refine ct_X8_tornFrom (j := 0) (sto_gT hj) (by decide) ?_
          refine r_callV (q := 65) (ci := 6) (As := [_, _]) dX5_goOut_62 s_X5_goOut_82 sto_g1 rfl rfl rfl (Nat.le_of_ble_eq_true rfl) rfl rfl rfl (Nat.le_of_ble_eq_true rfl) (Nat.le_of_ble_eq_true rfl) ⟨(Nat.le_of_ble_eq_true rfl), (Nat.le_of_ble_eq_true rfl)⟩ rfl ?_
          refine ct_keepS ?_
          refine r_iret dX5_goOut_65 rfl (Nat.le_of_ble_eq_true rfl) (Nat.le_of_ble_eq_true rfl) ?_
          exact hp
      · rw [if_neg h29] at hp
        refine r_aload_n (q := 33) dX5_goOut_32 rfl rfl rfl ?_
        refine r_getfield (q := 36) dX5_goOut_33 f_X5_goOut_10 sto_g0 rfl rfl ?_
        refine r_iconst (q := 37) (v := 2) dX5_goOut_36 rfl rfl ?_
        refine r_aload_n (q := 38) dX5_goOut_37 rfl rfl rfl ?_
        refine r_getfield (q := 41) dX5_goOut_38 f_X5_goOut_115 (sto_gT hj) (by rfl) rfl ?_
        refine r_callV (q := 44) (ci := 6) (As := [_, _]) dX5_goOut_41 s_X5_goOut_82 sto_g1 rfl rfl rfl (Nat.le_of_ble_eq_true rfl) rfl rfl rfl (Nat.le_of_ble_eq_true rfl) (Nat.le_of_ble_eq_true rfl) ⟨(Nat.le_of_ble_eq_true rfl), (Nat.le_of_ble_eq_true rfl)⟩ rfl ?_
        refine ct_keepS ?_
        refine r_iret dX5_goOut_44 rfl (Nat.le_of_ble_eq_true rfl) (Nat.le_of_ble_eq_true rfl) ?_
        exact hp
    · rw [if_neg hk] at hp
      refine ct_X5_tentAt_out hk ?_
      refine r_astoreN (q := 13) dX5_goOut_11 (Nat.le_of_ble_eq_true rfl) (xone_of rfl) rfl ?_
      refine r_aload_n (q := 14) dX5_goOut_13 rfl rfl rfl ?_
      refine r_ifnull (q := 17) dX5_goOut_14 rfl ?_
      refine r_aloadN (q := 19) dX5_goOut_17 rfl rfl ?_
      refine r_ifnonnullN (q := 22) dX5_goOut_19 rfl ?_
      refine r_bipush (q := 24) (v := (-2)) dX5_goOut_22 (by decide) rfl ?_
      refine r_iret dX5_goOut_24 rfl (Nat.le_of_ble_eq_true rfl) (Nat.le_of_ble_eq_true rfl) ?_
      exact hp
  · rw [if_neg ht] at hp
    refine ct_X5_tubAt_out ht ?_
    refine r_astore_nN (q := 6) dX5_goOut_5 rfl (Nat.le_of_ble_eq_true rfl) (xone_of rfl) rfl ?_
    refine r_aload_n (q := 7) dX5_goOut_6 rfl rfl rfl ?_
    refine r_iload_n (q := 8) dX5_goOut_7 rfl rfl rfl ?_
    refine r_callV (q := 11) (ci := 7) (As := [_]) dX5_goOut_8 s_X5_goOut_125 sto_g0 rfl rfl rfl (Nat.le_of_ble_eq_true rfl) rfl rfl rfl (Nat.le_of_ble_eq_true rfl) (Nat.le_of_ble_eq_true rfl) ⟨(Nat.le_of_ble_eq_true rfl), (Nat.le_of_ble_eq_true rfl)⟩ rfl ?_
    by_cases hk : okU c v
    · obtain ⟨u, hu, rfl⟩ := hk.ix
      refine ct_X5_tentAt_in hu hk ?_
      refine r_astore (q := 13) dX5_goOut_11 (Nat.le_of_ble_eq_true rfl) (xone_of rfl) rfl ?_
      refine r_aload_nN (q := 14) dX5_goOut_13 rfl rfl rfl ?_
      refine r_ifnullN (q := 22) dX5_goOut_14 (by decide) ?_
      refine r_bipush (q := 24) (v := (-2)) dX5_goOut_22 (by decide) rfl ?_
      refine r_iret dX5_goOut_24 rfl (Nat.le_of_ble_eq_true rfl) (Nat.le_of_ble_eq_true rfl) ?_
      exact hp
    · refine ct_X5_tentAt_out hk ?_
      refine r_astoreN (q := 13) dX5_goOut_11 (Nat.le_of_ble_eq_true rfl) (xone_of rfl) rfl ?_
      refine r_aload_nN (q := 14) dX5_goOut_13 rfl rfl rfl ?_
      refine r_ifnullN (q := 22) dX5_goOut_14 (by decide) ?_
      refine r_bipush (q := 24) (v := (-2)) dX5_goOut_22 (by decide) rfl ?_
      refine r_iret dX5_goOut_24 rfl (Nat.le_of_ble_eq_true rfl) (Nat.le_of_ble_eq_true rfl) ?_
      exact hp
set_option maxRecDepth 100000 in
set_option maxHeartbeats 4000000 in
theorem ct_X5_bringBack {E : xE} {Po : xPo} {w : xW} {b : Nat} {c : xCo} {t : Int32} (hp : Po (.inl (some (.int (backS c t).1))) (sto E w b (backS c t).2)) : Ct M_X5_bringBack E [.ref b, .int t] (sto E w b c) Po := by
  refine Ct.of (ws2 := xAll) (L := [some (.ref b), some (.int t), none, none, none]) (by decide +kernel) rfl rfl (List.forall_mem_cons.mpr ⟨rfl, List.forall_mem_cons.mpr ⟨rfl, fun _ h => absurd h List.not_mem_nil⟩⟩) (Nat.le_of_ble_eq_true rfl) rfl ?_
  unfold backS at hp
  refine r_aload_n (q := 1) dX5_bringBack_0 rfl rfl rfl ?_
  refine r_iload_n (q := 2) dX5_bringBack_1 rfl rfl rfl ?_
  refine r_callV (q := 5) (ci := 7) (As := [_]) dX5_bringBack_2 s_X5_bringBack_92 sto_g0 rfl rfl rfl (Nat.le_of_ble_eq_true rfl) rfl rfl rfl (Nat.le_of_ble_eq_true rfl) (Nat.le_of_ble_eq_true rfl) ⟨(Nat.le_of_ble_eq_true rfl), (Nat.le_of_ble_eq_true rfl)⟩ rfl ?_
  by_cases ht : okT c t
  · rw [if_pos ht] at hp
    obtain ⟨j, hj, rfl⟩ := ht.ix
    rw [nI_cl (by omega)] at hp
    refine ct_X5_tubAt_in hj ht ?_
    refine r_astore_n (q := 6) dX5_bringBack_5 rfl (Nat.le_of_ble_eq_true rfl) (xone_of rfl) rfl ?_
    refine r_aload_n (q := 7) dX5_bringBack_6 rfl rfl rfl ?_
    refine r_ifnonnull (q := 13) dX5_bringBack_7 (by decide) ?_
    refine r_aload_n (q := 14) dX5_bringBack_13 rfl rfl rfl ?_
    refine r_aload_n (q := 15) dX5_bringBack_14 rfl rfl rfl ?_
    refine r_getfield (q := 18) dX5_bringBack_15 f_X5_bringBack_115 (sto_gT hj) (by rfl) rfl ?_
    refine r_callV (q := 21) (ci := 7) (As := [_]) dX5_bringBack_18 s_X5_bringBack_125 sto_g0 rfl rfl rfl (Nat.le_of_ble_eq_true rfl) rfl rfl rfl (Nat.le_of_ble_eq_true rfl) (Nat.le_of_ble_eq_true rfl) ⟨(Nat.le_of_ble_eq_true rfl), (Nat.le_of_ble_eq_true rfl)⟩ rfl ?_
    by_cases hk : okU c (c.2.1 j 1)
    · rw [if_pos hk] at hp
      obtain ⟨u, hu, eu⟩ := hk.ix
      rw [eu] at hk hp ⊢
      rw [nI_cl (by omega)] at hp
      refine ct_X5_tentAt_in hu hk ?_
      refine r_astore_n (q := 22) dX5_bringBack_21 rfl (Nat.le_of_ble_eq_true rfl) (xone_of rfl) rfl ?_
      refine r_aload_n (q := 23) dX5_bringBack_22 rfl rfl rfl ?_
      refine r_ifnonnull (q := 36) dX5_bringBack_23 (by decide) ?_
      refine r_aload_n (q := 37) dX5_bringBack_36 rfl rfl rfl ?_
      refine r_getfield (q := 40) dX5_bringBack_37 f_X5_bringBack_109 (sto_gT hj) (by rfl) rfl ?_
      refine r_istore (q := 42) dX5_bringBack_40 (Nat.le_of_ble_eq_true rfl) (xone_of rfl) rfl ?_
      refine r_aload_n (q := 43) dX5_bringBack_42 rfl rfl rfl ?_
      refine r_callV (q := 46) (ci := 10) (As := []) dX5_bringBack_43 s_X5_bringBack_136 (sto_gT hj) rfl rfl rfl (Nat.le_of_ble_eq_true rfl) rfl rfl rfl (Nat.le_of_ble_eq_true rfl) (Nat.le_of_ble_eq_true rfl) ⟨(Nat.le_of_ble_eq_true rfl), (Nat.le_of_ble_eq_true rfl)⟩ rfl ?_
      refine ct_X8_empty (sto_gT hj) ?_
      rw [sto_pT2 hj]
      refine r_aload_n (q := 47) dX5_bringBack_46 rfl rfl rfl ?_
      refine r_iconst (q := 48) (v := (-1)) dX5_bringBack_47 rfl rfl ?_
      refine r_putfield (q := 51) dX5_bringBack_48 f_X5_bringBack_115 (sto_gT hj) rfl rfl (by exact Nat.le_of_ble_eq_true rfl) rfl ?_
      refine WF.cw (sto_pT (k := 1) hj) ?_
      refine r_aload_n (q := 52) dX5_bringBack_51 rfl rfl rfl ?_
      refine r_iconst (q := 53) (v := (-1)) dX5_bringBack_52 rfl rfl ?_
      refine r_putfield (q := 56) dX5_bringBack_53 f_X5_bringBack_133 (sto_gU hu) rfl rfl (by exact Nat.le_of_ble_eq_true rfl) rfl ?_
      refine WF.cw (sto_pU (k := 1) hu (by decide)) ?_
      refine r_iload (q := 58) dX5_bringBack_56 rfl rfl ?_
      refine r_iret dX5_bringBack_58 rfl (Nat.le_of_ble_eq_true rfl) (Nat.le_of_ble_eq_true rfl) ?_
      exact hp
    · rw [if_neg hk] at hp
      refine ct_X5_tentAt_out hk ?_
      refine r_astore_nN (q := 22) dX5_bringBack_21 rfl (Nat.le_of_ble_eq_true rfl) (xone_of rfl) rfl ?_
      refine r_aload_nN (q := 23) dX5_bringBack_22 rfl rfl rfl ?_
      refine r_ifnonnullN (q := 26) dX5_bringBack_23 rfl ?_
      refine r_aload_n (q := 27) dX5_bringBack_26 rfl rfl rfl ?_
      refine r_getfield (q := 30) dX5_bringBack_27 f_X5_bringBack_10 sto_g0 rfl rfl ?_
      refine r_iconst (q := 31) (v := 5) dX5_bringBack_30 rfl rfl ?_
      refine r_iload_n (q := 32) dX5_bringBack_31 rfl rfl rfl ?_
      refine r_callV (q := 35) (ci := 6) (As := [_, _]) dX5_bringBack_32 s_X5_bringBack_82 sto_g1 rfl rfl rfl (Nat.le_of_ble_eq_true rfl) rfl rfl rfl (Nat.le_of_ble_eq_true rfl) (Nat.le_of_ble_eq_true rfl) ⟨(Nat.le_of_ble_eq_true rfl), (Nat.le_of_ble_eq_true rfl)⟩ rfl ?_
      refine ct_keepS ?_
      refine r_iret dX5_bringBack_35 rfl (Nat.le_of_ble_eq_true rfl) (Nat.le_of_ble_eq_true rfl) ?_
      exact hp
  · rw [if_neg ht] at hp
    refine ct_X5_tubAt_out ht ?_
    refine r_astore_nN (q := 6) dX5_bringBack_5 rfl (Nat.le_of_ble_eq_true rfl) (xone_of rfl) rfl ?_
    refine r_aload_nN (q := 7) dX5_bringBack_6 rfl rfl rfl ?_
    refine r_ifnonnullN (q := 10) dX5_bringBack_7 rfl ?_
    refine r_bipush (q := 12) (v := (-2)) dX5_bringBack_10 (by decide) rfl ?_
    refine r_iret dX5_bringBack_12 rfl (Nat.le_of_ble_eq_true rfl) (Nat.le_of_ble_eq_true rfl) ?_
    exact hp
set_option maxRecDepth 100000 in
set_option maxHeartbeats 4000000 in
theorem ct_X5_addGuest {E : xE} {Po : xPo} {w : xW} {b : Nat} {c : xCo} {t : Int32} (hc : inC c) (hp : Po (.inl (some (.int (joinS c t).1))) (sto E w b (joinS c t).2)) : Ct M_X5_addGuest E [.ref b, .int t] (sto E w b c) Po := by
  refine Ct.of (ws2 := xAll) (L := [some (.ref b), some (.int t), none]) (by decide +kernel) rfl rfl (List.forall_mem_cons.mpr ⟨rfl, List.forall_mem_cons.mpr ⟨rfl, fun _ h => absurd h List.not_mem_nil⟩⟩) (Nat.le_of_ble_eq_true rfl) rfl ?_
  unfold joinS at hp
  refine r_aload_n (q := 1) dX5_addGuest_0 rfl rfl rfl ?_
  refine r_iload_n (q := 2) dX5_addGuest_1 rfl rfl rfl ?_
  refine r_callV (q := 5) (ci := 7) (As := [_]) dX5_addGuest_2 s_X5_addGuest_125 sto_g0 rfl rfl rfl (Nat.le_of_ble_eq_true rfl) rfl rfl rfl (Nat.le_of_ble_eq_true rfl) (Nat.le_of_ble_eq_true rfl) ⟨(Nat.le_of_ble_eq_true rfl), (Nat.le_of_ble_eq_true rfl)⟩ rfl ?_
  by_cases hk : okU c t
  · rw [if_pos hk] at hp
    obtain ⟨u, hu, rfl⟩ := hk.ix
    rw [nI_cl (by omega)] at hp
    obtain ⟨m, hm6, hm⟩ := hc.2.2.2 u hu
    refine ct_X5_tentAt_in hu hk ?_
    refine r_astore_n (q := 6) dX5_addGuest_5 rfl (Nat.le_of_ble_eq_true rfl) (xone_of rfl) rfl ?_
    refine r_aload_n (q := 7) dX5_addGuest_6 rfl rfl rfl ?_
    refine r_ifnonnull (q := 13) dX5_addGuest_7 (by decide) ?_
    refine r_aload_n (q := 14) dX5_addGuest_13 rfl rfl rfl ?_
    refine r_getfield (q := 17) dX5_addGuest_14 f_X5_addGuest_139 (sto_gU hu) (by rfl) rfl ?_
    refine r_bipush (q := 19) (v := 6) dX5_addGuest_17 (by decide) rfl ?_
    refine r_icmp_lt (q := 33) (q2 := 22) dX5_addGuest_19 (by decide) rfl (fun h19 => ?_) (fun h19 => ?_)
    · rw [if_pos h19] at hp
      refine r_aload_n (q := 34) dX5_addGuest_33 rfl rfl rfl ?_
      refine r_getfield (q := 37) dX5_addGuest_34 f_X5_addGuest_133 (sto_gU hu) (by rfl) rfl ?_
      refine r_if_ge (q := 51) (q2 := 40) dX5_addGuest_37 (by decide) rfl (fun h37 => ?_) (fun h37 => ?_)
      · rw [if_pos h37] at hp
        refine r_aload_n (q := 52) dX5_addGuest_51 rfl rfl rfl ?_
        refine r_getfield (q := 55) dX5_addGuest_52 f_X5_addGuest_47 sto_g0 rfl rfl ?_
        refine r_if_ne (q := 72) (q2 := 58) dX5_addGuest_55 (by decide) rfl (fun h55 => ?_) (fun h55 => ?_)
        · rw [if_neg h55] at hp
          refine r_aload_n (q := 73) dX5_addGuest_72 rfl rfl rfl ?_
          refine r_dup (q := 74) dX5_addGuest_73 rfl rfl ?_
          refine r_getfield (q := 77) dX5_addGuest_74 f_X5_addGuest_47 sto_g0 rfl rfl ?_
          refine r_iconst (q := 78) (v := 1) dX5_addGuest_77 rfl rfl ?_
          refine r_isub (q := 79) dX5_addGuest_78 rfl ?_
          refine r_putfield (q := 82) dX5_addGuest_79 f_X5_addGuest_47 sto_g0 rfl rfl (Nat.le_of_ble_eq_true rfl) rfl ?_
          refine WF.cw (sto_p0 (k := 4) (by decide)) ?_
          refine r_aload_n (q := 83) dX5_addGuest_82 rfl rfl rfl ?_
          refine r_aload_n (q := 84) dX5_addGuest_83 rfl rfl rfl ?_
          refine r_getfield (q := 87) dX5_addGuest_84 f_X5_addGuest_53 sto_g0 rfl rfl ?_
          rw [show (cS c 4 (c.1 4 - 1)).1 8 = c.1 8 from rfl]
          refine r_callV (q := 90) (ci := 8) (As := [_]) dX5_addGuest_87 s_X5_addGuest_142 (sto_gU hu) rfl rfl rfl (Nat.le_of_ble_eq_true rfl) rfl rfl rfl (Nat.le_of_ble_eq_true rfl) (Nat.le_of_ble_eq_true rfl) ⟨(Nat.le_of_ble_eq_true rfl), (Nat.le_of_ble_eq_true rfl)⟩ rfl ?_
          have hm7 : m < 6 := by
            rw [hm] at h19
            exact (nI_ltI (a := m) (b := 6) (by omega) (by omega)).mp h19
          refine ct_X6_append (sto_gU hu) (sto_gV hu) (by omega) hm hm7 ?_
          rw [sto_pV hu hm7, ← tnt_ign (k := 5 + m) (x := c.1 8) (by omega)]
          rw [show upd (upd (c.2.2.1 u) 4 (nI m + 1)) (5 + m) (c.1 8) = upd ((cU (cS c 4 (c.1 4 - 1)) u (5 + m) (c.1 8)).2.2.1 u) 4 (nI m + 1) from by funext z; simp only [upd, up2]; by_cases h1 : z = 5 + m <;> by_cases h2 : z = 4 <;> simp [h1, h2] <;> omega]
          rw [sto_pU (c := cU (cS c 4 (c.1 4 - 1)) u (5 + m) (c.1 8)) (k := 4) hu (by decide)]
          refine r_aload_n (q := 91) dX5_addGuest_90 rfl rfl rfl ?_
          refine r_dup (q := 92) dX5_addGuest_91 rfl rfl ?_
          refine r_getfield (q := 95) dX5_addGuest_92 f_X5_addGuest_53 sto_g0 rfl rfl ?_
          refine r_dup_x1 (q := 96) dX5_addGuest_95 rfl rfl rfl ?_
          refine r_iconst (q := 97) (v := 1) dX5_addGuest_96 rfl rfl ?_
          refine r_iadd (q := 98) dX5_addGuest_97 rfl ?_
          refine r_putfield (q := 101) dX5_addGuest_98 f_X5_addGuest_53 sto_g0 rfl rfl (Nat.le_of_ble_eq_true rfl) rfl ?_
          refine WF.cw (sto_p0 (k := 8) (by decide)) ?_
          refine r_iret dX5_addGuest_101 rfl (Nat.le_of_ble_eq_true rfl) (Nat.le_of_ble_eq_true rfl) ?_
          rw [hm, nI_cl (by omega)] at hp
          exact hp
        · rw [if_pos h55] at hp
          refine r_aload_n (q := 59) dX5_addGuest_58 rfl rfl rfl ?_
          refine r_getfield (q := 62) dX5_addGuest_59 f_X5_addGuest_10 sto_g0 rfl rfl ?_
          refine r_bipush (q := 64) (v := 10) dX5_addGuest_62 (by decide) rfl ?_
          refine r_aload_n (q := 65) dX5_addGuest_64 rfl rfl rfl ?_
          refine r_getfield (q := 68) dX5_addGuest_65 f_X5_addGuest_50 sto_g0 rfl rfl ?_
          refine r_callV (q := 71) (ci := 6) (As := [_, _]) dX5_addGuest_68 s_X5_addGuest_82 sto_g1 rfl rfl rfl (Nat.le_of_ble_eq_true rfl) rfl rfl rfl (Nat.le_of_ble_eq_true rfl) (Nat.le_of_ble_eq_true rfl) ⟨(Nat.le_of_ble_eq_true rfl), (Nat.le_of_ble_eq_true rfl)⟩ rfl ?_
          refine ct_keepS ?_
          refine r_iret dX5_addGuest_71 rfl (Nat.le_of_ble_eq_true rfl) (Nat.le_of_ble_eq_true rfl) ?_
          exact hp
      · rw [if_neg h37] at hp
        refine r_aload_n (q := 41) dX5_addGuest_40 rfl rfl rfl ?_
        refine r_getfield (q := 44) dX5_addGuest_41 f_X5_addGuest_10 sto_g0 rfl rfl ?_
        refine r_bipush (q := 46) (v := 6) dX5_addGuest_44 (by decide) rfl ?_
        refine r_iload_n (q := 47) dX5_addGuest_46 rfl rfl rfl ?_
        refine r_callV (q := 50) (ci := 6) (As := [_, _]) dX5_addGuest_47 s_X5_addGuest_82 sto_g1 rfl rfl rfl (Nat.le_of_ble_eq_true rfl) rfl rfl rfl (Nat.le_of_ble_eq_true rfl) (Nat.le_of_ble_eq_true rfl) ⟨(Nat.le_of_ble_eq_true rfl), (Nat.le_of_ble_eq_true rfl)⟩ rfl ?_
        refine ct_keepS ?_
        refine r_iret dX5_addGuest_50 rfl (Nat.le_of_ble_eq_true rfl) (Nat.le_of_ble_eq_true rfl) ?_
        exact hp
    · rw [if_neg h19] at hp
      refine r_aload_n (q := 23) dX5_addGuest_22 rfl rfl rfl ?_
      refine r_getfield (q := 26) dX5_addGuest_23 f_X5_addGuest_10 sto_g0 rfl rfl ?_
      refine r_iconst (q := 27) (v := 1) dX5_addGuest_26 rfl rfl ?_
      refine r_bipush (q := 29) (v := 6) dX5_addGuest_27 (by decide) rfl ?_
      refine r_callV (q := 32) (ci := 6) (As := [_, _]) dX5_addGuest_29 s_X5_addGuest_82 sto_g1 rfl rfl rfl (Nat.le_of_ble_eq_true rfl) rfl rfl rfl (Nat.le_of_ble_eq_true rfl) (Nat.le_of_ble_eq_true rfl) ⟨(Nat.le_of_ble_eq_true rfl), (Nat.le_of_ble_eq_true rfl)⟩ rfl ?_
      refine ct_keepS ?_
      refine r_iret dX5_addGuest_32 rfl (Nat.le_of_ble_eq_true rfl) (Nat.le_of_ble_eq_true rfl) ?_
      exact hp
  · rw [if_neg hk] at hp
    refine ct_X5_tentAt_out hk ?_
    refine r_astore_nN (q := 6) dX5_addGuest_5 rfl (Nat.le_of_ble_eq_true rfl) (xone_of rfl) rfl ?_
    refine r_aload_nN (q := 7) dX5_addGuest_6 rfl rfl rfl ?_
    refine r_ifnonnullN (q := 10) dX5_addGuest_7 rfl ?_
    refine r_bipush (q := 12) (v := (-2)) dX5_addGuest_10 (by decide) rfl ?_
    refine r_iret dX5_addGuest_12 rfl (Nat.le_of_ble_eq_true rfl) (Nat.le_of_ble_eq_true rfl) ?_
    exact hp
