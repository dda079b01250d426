/-! ===== 14.store3: heaters, towels, soap, hours (rows laid by wip/p39/gen/store3.py) ===== -/
def heatPS (c : xCo) (h t : Int32) : Int32 × xCo := if okG c h then (if okU c t then (if c.2.2.2 h.toNatClampNeg 1 < 0 then (if c.2.2.1 t.toNatClampNeg 2 < 0 then (c.2.2.2 h.toNatClampNeg 0, cU (cG c h.toNatClampNeg 1 t) t.toNatClampNeg 2 h) else (-1, cR c 8 (c.2.2.1 t.toNatClampNeg 2))) else (-1, cR c 7 (c.2.2.2 h.toNatClampNeg 1))) else (-2, c)) else (-2, c)
def coldS (c : xCo) (h : Int32) : Int32 × xCo := if okG c h then (if okU c (c.2.2.2 h.toNatClampNeg 1) then (c.2.2.2 h.toNatClampNeg 1, cU (cG c h.toNatClampNeg 1 (-1)) (c.2.2.2 h.toNatClampNeg 1).toNatClampNeg 2 (-1)) else (-1, cR c 9 h)) else (-2, c)
def gasS (c : xCo) (h x : Int32) : Int32 × xCo := if okG c h then (if x < 1 then (-3, c) else if x ≤ 12 then (if x ≤ c.1 7 then (mn 60 (c.2.2.2 h.toNatClampNeg 0 + 5 * x), cG (cS c 7 (c.1 7 - x)) h.toNatClampNeg 0 (mn 60 (c.2.2.2 h.toNatClampNeg 0 + 5 * x))) else (-1, cR c 12 (x - c.1 7))) else (-3, c)) else (-2, c)
def washS (c : xCo) (m : Int32) : Int32 × xCo := if m < 1 then (-3, c) else if m ≤ 20 then (if c.1 5 = 0 then (-1, cR c 13 0) else (if mn m (c.1 5) ≤ c.1 7 then (mn m (c.1 5), cS (cS (cS c 7 (c.1 7 - mn m (c.1 5))) 5 (c.1 5 - mn m (c.1 5))) 4 (c.1 4 + mn m (c.1 5))) else (-1, cR c 12 (mn m (c.1 5) - c.1 7)))) else (-3, c)
def soapS (c : xCo) (m : Int32) : Int32 × xCo := if m < 1 then (-3, c) else if m ≤ 20 then (if mn m (99 - c.1 6) ≤ c.1 7 then (c.1 6 + mn m (99 - c.1 6), cS (cS c 7 (c.1 7 - mn m (99 - c.1 6))) 6 (c.1 6 + mn m (99 - c.1 6))) else (-1, cR c 12 (mn m (99 - c.1 6) - c.1 7))) else (-3, c)
def burnS (c : xCo) (h : Int32) : Int32 × xCo := if okG c h then (if 0 < c.2.2.2 h.toNatClampNeg 0 then (1, cG c h.toNatClampNeg 0 (c.2.2.2 h.toNatClampNeg 0 - 1)) else (0, c)) else (0, c)
def cSh (c : xCo) (u : Nat) : xCo := (c.1, c.2.1, fun a k => if a = u then shF (c.2.2.1 a) 5 k else c.2.2.1 a k, c.2.2.2)
theorem cSh_u {c : xCo} {u : Nat} : (cSh c u).2.2.1 u = shF (c.2.2.1 u) 5 := by
  funext z
  show (if u = u then _ else _) = _
  rw [if_pos rfl]
theorem cSh_o {c : xCo} {u a : Nat} (h : a ≠ u) : (cSh c u).2.2.1 a = c.2.2.1 a := by
  funext z
  show (if a = u then _ else _) = _
  rw [if_neg h]
theorem tnt_sh {g : Nat} {f : Nat → Int32} {j : Nat} : tntE g (shF f j) = tntE g f := by
  unfold tntE shF
  rfl
theorem tnt_shu {g k : Nat} {f : Nat → Int32} {j : Nat} {x : Int32} : tntE g (upd (shF f j) k x) = tntE g (upd f k x) := by
  unfold tntE shF upd
  rfl
theorem sto_sh {E : xE} {w : xW} {b u : Nat} {c : xCo} {x : Int32} (h : u < 5) : xset (xset (sto E w b c) (b + 14 + 2 * u) (gstE E (shF (c.2.2.1 u) 5))) (b + 13 + 2 * u) (tntE (b + 14 + 2 * u) (upd (c.2.2.1 u) 4 x)) = sto E w b (cU (cSh c u) u 4 x) := by
  have h1 : xset (sto E w b c) (b + 14 + 2 * u) (gstE E (shF (c.2.2.1 u) 5)) = sto E w b (cSh c u) := by
    rw [Nat.add_assoc b 14]
    refine sto_put (o := 14 + 2 * u) (by omega) (by rw [stoC_gst h, cSh_u]) (fun j hj h0 => ?_)
    revert h0
    refine sto_cases (P := fun j => j ≠ 14 + 2 * u → stoC E b (cSh c u) j = stoC E b c j) (fun _ => rfl) (fun _ => rfl) (fun _ => rfl) (fun _ => rfl) (fun _ => rfl) (fun t ht _ => ?_) (fun t ht _ => ?_) (fun t ht h9 => ?_) (fun t ht _ => ?_) j hj
    · rw [stoC_tub ht, stoC_tub ht]; rfl
    · rw [stoC_tnt ht, stoC_tnt ht]
      by_cases e : t = u
      · subst e; rw [cSh_u, tnt_sh]
      · rw [cSh_o e]
    · rw [stoC_gst ht, stoC_gst ht, cSh_o (fun e => h9 (by rw [e]))]
    · rw [stoC_htr ht, stoC_htr ht]; rfl
  rw [h1, ← tnt_shu (j := 5), ← cSh_u]
  exact sto_pU h (by decide)
def bthA (c : xCo) (j : Nat) : xCo := cS (cS (cS (cS c 6 (c.1 6 - 1)) 7 ((cS c 6 (c.1 6 - 1)).1 7 + if c.2.1 j 4 < 45 then 3 else 4)) 5 (c.1 5 + 1)) 9 (c.1 9 + 1)
def bthB (c : xCo) (u : Nat) : xCo := cU (cU (cSh c u) u 4 (c.2.2.1 u 4 - 1)) u 3 ((cU (cSh c u) u 4 (c.2.2.1 u 4 - 1)).2.2.1 u 3 + 1)
def bthC (c : xCo) (j : Nat) : xCo := cT (cT c j 5 1) j 6 ((cT c j 5 1).2.1 j 6 + 1)
def bthD (d : xCo) (u j : Nat) : xCo := if d.2.1 j 6 - d.2.1 j 6 / 4 * 4 = 0 then cT d j 2 (d.2.1 j 2 ||| (1 : Int32) <<< ((d.2.2.1 u 1 + d.2.1 j 6 - (d.2.2.1 u 1 + d.2.1 j 6) / 8 * 8) &&& 31)) else d
def batheS (c : xCo) (u j : Nat) : xCo := bthD (bthC (bthB (bthA c j) u) j) u j
def tailS (c : xCo) (u j : Nat) : xCo := if 60 ≤ c.2.1 j 4 then cT c j 4 (mx 10 (c.2.1 j 4 - 1)) else if (burnS c (c.2.2.1 u 2)).1 = 0 then cT (burnS c (c.2.2.1 u 2)).2 j 4 (mx 10 (c.2.1 j 4 - 1)) else cT (burnS c (c.2.2.1 u 2)).2 j 4 (heatS (c.2.1 j 0) (c.2.1 j 4))
def hour2S (c : xCo) (u j : Nat) : xCo := if bb (c.2.1 j 5) = 0 then (if 100 * c.2.1 j 0 ≤ c.2.1 j 3 then (if c.2.1 j 4 < 38 then tailS c u j else if c.2.2.1 u 4 ≤ 0 then tailS c u j else if c.1 6 ≤ 0 then tailS c u j else batheS c u j) else cT (cT c j 4 (if c.2.1 j 3 = 0 then 10 else mx 10 (c.2.1 j 4 - 5))) j 3 (100 * c.2.1 j 0))
  else if mx 0 (c.2.1 j 3 - (20 + 10 * c.2.2.1 u 0)) = 0 then cT (cT c j 3 (mx 0 (c.2.1 j 3 - (20 + 10 * c.2.2.1 u 0)))) j 5 0 else cT c j 3 (mx 0 (c.2.1 j 3 - (20 + 10 * c.2.2.1 u 0)))
def hourInS (c : xCo) (u : Nat) : xCo := if okT c (c.2.2.1 u 1) then hour2S (cT c (c.2.2.1 u 1).toNatClampNeg 3 (mx 0 (c.2.1 (c.2.2.1 u 1).toNatClampNeg 3 - 5 * bcS (c.2.1 (c.2.2.1 u 1).toNatClampNeg 2)))) u (c.2.2.1 u 1).toNatClampNeg else c
theorem burnS_1 {c : xCo} {h : Int32} : (burnS c h).2.1 = c.1 ∧ (burnS c h).2.2.1 = c.2.1 ∧ (burnS c h).2.2.2.1 = c.2.2.1 := by
  unfold burnS
  split
  · split <;> exact ⟨rfl, rfl, rfl⟩
  · exact ⟨rfl, rfl, rfl⟩
set_option maxRecDepth 100000 in
set_option maxHeartbeats 4000000 in
theorem ct_X5_putHeater {E : xE} {Po : xPo} {w : xW} {b : Nat} {c : xCo} {h v : Int32} (hp : Po (.inl (some (.int (heatPS c h v).1))) (sto E w b (heatPS c h v).2)) : Ct M_X5_putHeater E [.ref b, .int h, .int v] (sto E w b c) Po := by
  refine Ct.of (ws2 := xAll) (L := [some (.ref b), some (.int h), some (.int v), none, none]) (by decide +kernel) rfl rfl (List.forall_mem_cons.mpr ⟨rfl, List.forall_mem_cons.mpr ⟨rfl, List.forall_mem_cons.mpr ⟨rfl, fun _ h => absurd h List.not_mem_nil⟩⟩⟩) (Nat.le_of_ble_eq_true rfl) rfl ?_
  unfold heatPS at hp
  refine r_aload_n (q := 1) dX5_putHeater_0 rfl rfl rfl ?_
  refine r_iload_n (q := 2) dX5_putHeater_1 rfl rfl rfl ?_
  refine r_callV (q := 5) (ci := 7) (As := [_]) dX5_putHeater_2 s_X5_putHeater_149 sto_g0 rfl rfl rfl (Nat.le_of_ble_eq_true rfl) rfl rfl rfl (Nat.le_of_ble_eq_true rfl) (Nat.le_of_ble_eq_true rfl) ⟨(Nat.le_of_ble_eq_true rfl), (Nat.le_of_ble_eq_true rfl)⟩ rfl ?_
  by_cases hh : okG c h
  · rw [if_pos hh] at hp
    obtain ⟨g, hg, rfl⟩ := hh.ix
    rw [nI_cl (by omega)] at hp
    refine ct_X5_heaterAt_in hg hh ?_
    refine r_astore_n (q := 6) dX5_putHeater_5 rfl (Nat.le_of_ble_eq_true rfl) (xone_of rfl) rfl ?_
    refine r_aload_n (q := 7) dX5_putHeater_6 rfl rfl rfl ?_
    refine r_iload_n (q := 8) dX5_putHeater_7 rfl rfl rfl ?_
    refine r_callV (q := 11) (ci := 7) (As := [_]) dX5_putHeater_8 s_X5_putHeater_125 sto_g0 rfl rfl rfl (Nat.le_of_ble_eq_true rfl) rfl rfl rfl (Nat.le_of_ble_eq_true rfl) (Nat.le_of_ble_eq_true rfl) ⟨(Nat.le_of_ble_eq_true rfl), (Nat.le_of_ble_eq_true rfl)⟩ rfl ?_
    by_cases hk : okU c v
    · rw [if_pos hk] at hp
      obtain ⟨u, hu, rfl⟩ := hk.ix
      rw [nI_cl (by omega)] at hp
      refine ct_X5_tentAt_in hu hk ?_
      refine r_astore (q := 13) dX5_putHeater_11 (Nat.le_of_ble_eq_true rfl) (xone_of rfl) rfl ?_
      refine r_aload_n (q := 14) dX5_putHeater_13 rfl rfl rfl ?_
      refine r_ifnull (q := 17) dX5_putHeater_14 rfl ?_
      refine r_aload (q := 19) dX5_putHeater_17 rfl rfl ?_
      refine r_ifnonnull (q := 25) dX5_putHeater_19 (by decide) ?_
      refine r_aload_n (q := 26) dX5_putHeater_25 rfl rfl rfl ?_
      refine r_getfield (q := 29) dX5_putHeater_26 f_X5_putHeater_153 (sto_gG hg) (by rfl) rfl ?_
      refine r_if_lt (q := 46) (q2 := 32) dX5_putHeater_29 (by decide) rfl (fun h29 => ?_) (fun h29 => ?_)
      · rw [if_pos h29] at hp
        refine r_aload (q := 48) dX5_putHeater_46 rfl rfl ?_
        refine r_getfield (q := 51) dX5_putHeater_48 f_X5_putHeater_154 (sto_gU hu) (by rfl) rfl ?_
        refine r_if_lt (q := 69) (q2 := 54) dX5_putHeater_51 (by decide) rfl (fun h51 => ?_) (fun h51 => ?_)
        · rw [if_pos h51] at hp
          refine r_aload_n (q := 70) dX5_putHeater_69 rfl rfl rfl ?_
          refine r_iload_n (q := 71) dX5_putHeater_70 rfl rfl rfl ?_
          refine r_putfield (q := 74) dX5_putHeater_71 f_X5_putHeater_153 (sto_gG hg) rfl rfl (by exact Nat.le_of_ble_eq_true rfl) rfl ?_
          refine WF.cw (sto_pG (k := 1) hg) ?_
          refine r_aload (q := 76) dX5_putHeater_74 rfl rfl ?_
          refine r_iload_n (q := 77) dX5_putHeater_76 rfl rfl rfl ?_
          refine r_putfield (q := 80) dX5_putHeater_77 f_X5_putHeater_154 (sto_gU hu) rfl rfl (by exact Nat.le_of_ble_eq_true rfl) rfl ?_
          refine WF.cw (sto_pU (k := 2) hu (by decide)) ?_
          refine r_aload_n (q := 81) dX5_putHeater_80 rfl rfl rfl ?_
          refine r_getfield (q := 84) dX5_putHeater_81 f_X5_putHeater_157 (sto_gG hg) (by rfl) rfl ?_
          refine r_iret dX5_putHeater_84 rfl (Nat.le_of_ble_eq_true rfl) (Nat.le_of_ble_eq_true rfl) ?_
          simp only [cU, cG, up2_2 (show (0 : Nat) ≠ 1 by decide)] at hp ⊢; exact hp
        · rw [if_neg h51] at hp
          refine r_aload_n (q := 55) dX5_putHeater_54 rfl rfl rfl ?_
          refine r_getfield (q := 58) dX5_putHeater_55 f_X5_putHeater_10 sto_g0 rfl rfl ?_
          refine r_bipush (q := 60) (v := 8) dX5_putHeater_58 (by decide) rfl ?_
          refine r_aload (q := 62) dX5_putHeater_60 rfl rfl ?_
          refine r_getfield (q := 65) dX5_putHeater_62 f_X5_putHeater_154 (sto_gU hu) (by rfl) rfl ?_
          refine r_callV (q := 68) (ci := 6) (As := [_, _]) dX5_putHeater_65 s_X5_putHeater_82 sto_g1 rfl rfl rfl (Nat.le_of_ble_eq_true rfl) rfl rfl rfl (Nat.le_of_ble_eq_true rfl) (Nat.le_of_ble_eq_true rfl) ⟨(Nat.le_of_ble_eq_true rfl), (Nat.le_of_ble_eq_true rfl)⟩ rfl ?_
          refine ct_keepS ?_
          refine r_iret dX5_putHeater_68 rfl (Nat.le_of_ble_eq_true rfl) (Nat.le_of_ble_eq_true rfl) ?_
          exact hp
      · rw [if_neg h29] at hp
        refine r_aload_n (q := 33) dX5_putHeater_32 rfl rfl rfl ?_
        refine r_getfield (q := 36) dX5_putHeater_33 f_X5_putHeater_10 sto_g0 rfl rfl ?_
        refine r_bipush (q := 38) (v := 7) dX5_putHeater_36 (by decide) rfl ?_
        refine r_aload_n (q := 39) dX5_putHeater_38 rfl rfl rfl ?_
        refine r_getfield (q := 42) dX5_putHeater_39 f_X5_putHeater_153 (sto_gG hg) (by rfl) rfl ?_
        refine r_callV (q := 45) (ci := 6) (As := [_, _]) dX5_putHeater_42 s_X5_putHeater_82 sto_g1 rfl rfl rfl (Nat.le_of_ble_eq_true rfl) rfl rfl rfl (Nat.le_of_ble_eq_true rfl) (Nat.le_of_ble_eq_true rfl) ⟨(Nat.le_of_ble_eq_true rfl), (Nat.le_of_ble_eq_true rfl)⟩ rfl ?_
        refine ct_keepS ?_
        refine r_iret dX5_putHeater_45 rfl (Nat.le_of_ble_eq_true rfl) (Nat.le_of_ble_eq_true rfl) ?_
        exact hp
    · rw [if_neg hk] at hp
      refine ct_X5_tentAt_out hk ?_
      refine r_astoreN (q := 13) dX5_putHeater_11 (Nat.le_of_ble_eq_true rfl) (xone_of rfl) rfl ?_
      refine r_aload_n (q := 14) dX5_putHeater_13 rfl rfl rfl ?_
      refine r_ifnull (q := 17) dX5_putHeater_14 rfl ?_
      refine r_aloadN (q := 19) dX5_putHeater_17 rfl rfl ?_
      refine r_ifnonnullN (q := 22) dX5_putHeater_19 rfl ?_
      refine r_bipush (q := 24) (v := (-2)) dX5_putHeater_22 (by decide) rfl ?_
      refine r_iret dX5_putHeater_24 rfl (Nat.le_of_ble_eq_true rfl) (Nat.le_of_ble_eq_true rfl) ?_
      exact hp
  · rw [if_neg hh] at hp
    refine ct_X5_heaterAt_out hh ?_
    refine r_astore_nN (q := 6) dX5_putHeater_5 rfl (Nat.le_of_ble_eq_true rfl) (xone_of rfl) rfl ?_
    refine r_aload_n (q := 7) dX5_putHeater_6 rfl rfl rfl ?_
    refine r_iload_n (q := 8) dX5_putHeater_7 rfl rfl rfl ?_
    refine r_callV (q := 11) (ci := 7) (As := [_]) dX5_putHeater_8 s_X5_putHeater_125 sto_g0 rfl rfl rfl (Nat.le_of_ble_eq_true rfl) rfl rfl rfl (Nat.le_of_ble_eq_true rfl) (Nat.le_of_ble_eq_true rfl) ⟨(Nat.le_of_ble_eq_true rfl), (Nat.le_of_ble_eq_true rfl)⟩ rfl ?_
    by_cases hk : okU c v
    · obtain ⟨u, hu, rfl⟩ := hk.ix
      refine ct_X5_tentAt_in hu hk ?_
      refine r_astore (q := 13) dX5_putHeater_11 (Nat.le_of_ble_eq_true rfl) (xone_of rfl) rfl ?_
      refine r_aload_nN (q := 14) dX5_putHeater_13 rfl rfl rfl ?_
      refine r_ifnullN (q := 22) dX5_putHeater_14 (by decide) ?_
      refine r_bipush (q := 24) (v := (-2)) dX5_putHeater_22 (by decide) rfl ?_
      refine r_iret dX5_putHeater_24 rfl (Nat.le_of_ble_eq_true rfl) (Nat.le_of_ble_eq_true rfl) ?_
      exact hp
    · refine ct_X5_tentAt_out hk ?_
      refine r_astoreN (q := 13) dX5_putHeater_11 (Nat.le_of_ble_eq_true rfl) (xone_of rfl) rfl ?_
      refine r_aload_nN (q := 14) dX5_putHeater_13 rfl rfl rfl ?_
      refine r_ifnullN (q := 22) dX5_putHeater_14 (by decide) ?_
      refine r_bipush (q := 24) (v := (-2)) dX5_putHeater_22 (by decide) rfl ?_
      refine r_iret dX5_putHeater_24 rfl (Nat.le_of_ble_eq_true rfl) (Nat.le_of_ble_eq_true rfl) ?_
      exact hp
set_option maxRecDepth 100000 in
set_option maxHeartbeats 4000000 in
theorem ct_X5_takeHeater {E : xE} {Po : xPo} {w : xW} {b : Nat} {c : xCo} {h : Int32} (hp : Po (.inl (some (.int (coldS c h).1))) (sto E w b (coldS c h).2)) : Ct M_X5_takeHeater E [.ref b, .int h] (sto E w b c) Po := by
  refine Ct.of (ws2 := xAll) (L := [some (.ref b), some (.int h), none, none, none]) (by decide +kernel) rfl rfl (List.forall_mem_cons.mpr ⟨rfl, List.forall_mem_cons.mpr ⟨rfl, fun _ h => absurd h List.not_mem_nil⟩⟩) (Nat.le_of_ble_eq_true rfl) rfl ?_
  unfold coldS at hp
  refine r_aload_n (q := 1) dX5_takeHeater_0 rfl rfl rfl ?_
  refine r_iload_n (q := 2) dX5_takeHeater_1 rfl rfl rfl ?_
  refine r_callV (q := 5) (ci := 7) (As := [_]) dX5_takeHeater_2 s_X5_takeHeater_149 sto_g0 rfl rfl rfl (Nat.le_of_ble_eq_true rfl) rfl rfl rfl (Nat.le_of_ble_eq_true rfl) (Nat.le_of_ble_eq_true rfl) ⟨(Nat.le_of_ble_eq_true rfl), (Nat.le_of_ble_eq_true rfl)⟩ rfl ?_
  by_cases hh : okG c h
  · rw [if_pos hh] at hp
    obtain ⟨g, hg, rfl⟩ := hh.ix
    rw [nI_cl (by omega)] at hp
    refine ct_X5_heaterAt_in hg hh ?_
    refine r_astore_n (q := 6) dX5_takeHeater_5 rfl (Nat.le_of_ble_eq_true rfl) (xone_of rfl) rfl ?_
    refine r_aload_n (q := 7) dX5_takeHeater_6 rfl rfl rfl ?_
    refine r_ifnonnull (q := 13) dX5_takeHeater_7 (by decide) ?_
    refine r_aload_n (q := 14) dX5_takeHeater_13 rfl rfl rfl ?_
    refine r_getfield (q := 17) dX5_takeHeater_14 f_X5_takeHeater_153 (sto_gG hg) (by rfl) rfl ?_
    refine r_istore_n (q := 18) dX5_takeHeater_17 rfl (Nat.le_of_ble_eq_true rfl) (xone_of rfl) rfl ?_
    refine r_aload_n (q := 19) dX5_takeHeater_18 rfl rfl rfl ?_
    refine r_iload_n (q := 20) dX5_takeHeater_19 rfl rfl rfl ?_
    refine r_callV (q := 23) (ci := 7) (As := [_]) dX5_takeHeater_20 s_X5_takeHeater_125 sto_g0 rfl rfl rfl (Nat.le_of_ble_eq_true rfl) rfl rfl rfl (Nat.le_of_ble_eq_true rfl) (Nat.le_of_ble_eq_true rfl) ⟨(Nat.le_of_ble_eq_true rfl), (Nat.le_of_ble_eq_true rfl)⟩ rfl ?_
    by_cases hk : okU c (c.2.2.2 g 1)
    · rw [if_pos hk] at hp
      obtain ⟨u, hu, eu⟩ := hk.ix
      rw [eu] at hk hp ⊢
      rw [nI_cl (by omega)] at hp
      refine ct_X5_tentAt_in hu hk ?_
      refine r_astore (q := 25) dX5_takeHeater_23 (Nat.le_of_ble_eq_true rfl) (xone_of rfl) rfl ?_
      refine r_aload (q := 27) dX5_takeHeater_25 rfl rfl ?_
      refine r_ifnonnull (q := 41) dX5_takeHeater_27 (by decide) ?_
      refine r_aload_n (q := 42) dX5_takeHeater_41 rfl rfl rfl ?_
      refine r_iconst (q := 43) (v := (-1)) dX5_takeHeater_42 rfl rfl ?_
      refine r_putfield (q := 46) dX5_takeHeater_43 f_X5_takeHeater_153 (sto_gG hg) rfl rfl (by exact Nat.le_of_ble_eq_true rfl) rfl ?_
      refine WF.cw (sto_pG (k := 1) hg) ?_
      refine r_aload (q := 48) dX5_takeHeater_46 rfl rfl ?_
      refine r_iconst (q := 49) (v := (-1)) dX5_takeHeater_48 rfl rfl ?_
      refine r_putfield (q := 52) dX5_takeHeater_49 f_X5_takeHeater_154 (sto_gU hu) rfl rfl (by exact Nat.le_of_ble_eq_true rfl) rfl ?_
      refine WF.cw (sto_pU (k := 2) hu (by decide)) ?_
      refine r_iload_n (q := 53) dX5_takeHeater_52 rfl rfl rfl ?_
      refine r_iret dX5_takeHeater_53 rfl (Nat.le_of_ble_eq_true rfl) (Nat.le_of_ble_eq_true rfl) ?_
      exact hp
    · rw [if_neg hk] at hp
      refine ct_X5_tentAt_out hk ?_
      refine r_astoreN (q := 25) dX5_takeHeater_23 (Nat.le_of_ble_eq_true rfl) (xone_of rfl) rfl ?_
      refine r_aloadN (q := 27) dX5_takeHeater_25 rfl rfl ?_
      refine r_ifnonnullN (q := 30) dX5_takeHeater_27 rfl ?_
      refine r_aload_n (q := 31) dX5_takeHeater_30 rfl rfl rfl ?_
      refine r_getfield (q := 34) dX5_takeHeater_31 f_X5_takeHeater_10 sto_g0 rfl rfl ?_
      refine r_bipush (q := 36) (v := 9) dX5_takeHeater_34 (by decide) rfl ?_
      refine r_iload_n (q := 37) dX5_takeHeater_36 rfl rfl rfl ?_
      refine r_callV (q := 40) (ci := 6) (As := [_, _]) dX5_takeHeater_37 s_X5_takeHeater_82 sto_g1 rfl rfl rfl (Nat.le_of_ble_eq_true rfl) rfl rfl rfl (Nat.le_of_ble_eq_true rfl) (Nat.le_of_ble_eq_true rfl) ⟨(Nat.le_of_ble_eq_true rfl), (Nat.le_of_ble_eq_true rfl)⟩ rfl ?_
      refine ct_keepS ?_
      refine r_iret dX5_takeHeater_40 rfl (Nat.le_of_ble_eq_true rfl) (Nat.le_of_ble_eq_true rfl) ?_
      exact hp
  · rw [if_neg hh] at hp
    refine ct_X5_heaterAt_out hh ?_
    refine r_astore_nN (q := 6) dX5_takeHeater_5 rfl (Nat.le_of_ble_eq_true rfl) (xone_of rfl) rfl ?_
    refine r_aload_nN (q := 7) dX5_takeHeater_6 rfl rfl rfl ?_
    refine r_ifnonnullN (q := 10) dX5_takeHeater_7 rfl ?_
    refine r_bipush (q := 12) (v := (-2)) dX5_takeHeater_10 (by decide) rfl ?_
    refine r_iret dX5_takeHeater_12 rfl (Nat.le_of_ble_eq_true rfl) (Nat.le_of_ble_eq_true rfl) ?_
    exact hp
set_option maxRecDepth 100000 in
set_option maxHeartbeats 4000000 in
theorem ct_X5_buyGas {E : xE} {Po : xPo} {w : xW} {b : Nat} {c : xCo} {h x : Int32} (hp : Po (.inl (some (.int (gasS c h x).1))) (sto E w b (gasS c h x).2)) : Ct M_X5_buyGas E [.ref b, .int h, .int x] (sto E w b c) Po := by
  refine Ct.of (ws2 := xAll) (L := [some (.ref b), some (.int h), some (.int x), none]) (by decide +kernel) rfl rfl (List.forall_mem_cons.mpr ⟨rfl, List.forall_mem_cons.mpr ⟨rfl, List.forall_mem_cons.mpr ⟨rfl, fun _ h => absurd h List.not_mem_nil⟩⟩⟩) (Nat.le_of_ble_eq_true rfl) rfl ?_
  unfold gasS at hp
  refine r_aload_n (q := 1) dX5_buyGas_0 rfl rfl rfl ?_
  refine r_iload_n (q := 2) dX5_buyGas_1 rfl rfl rfl ?_
  refine r_callV (q := 5) (ci := 7) (As := [_]) dX5_buyGas_2 s_X5_buyGas_149 sto_g0 rfl rfl rfl (Nat.le_of_ble_eq_true rfl) rfl rfl rfl (Nat.le_of_ble_eq_true rfl) (Nat.le_of_ble_eq_true rfl) ⟨(Nat.le_of_ble_eq_true rfl), (Nat.le_of_ble_eq_true rfl)⟩ rfl ?_
  by_cases hh : okG c h
  · rw [if_pos hh] at hp
    obtain ⟨g, hg, rfl⟩ := hh.ix
    rw [nI_cl (by omega)] at hp
    refine ct_X5_heaterAt_in hg hh ?_
    refine r_astore_n (q := 6) dX5_buyGas_5 rfl (Nat.le_of_ble_eq_true rfl) (xone_of rfl) rfl ?_
    refine r_aload_n (q := 7) dX5_buyGas_6 rfl rfl rfl ?_
    refine r_ifnonnull (q := 13) dX5_buyGas_7 (by decide) ?_
    refine r_iload_n (q := 14) dX5_buyGas_13 rfl rfl rfl ?_
    refine r_iconst (q := 15) (v := 1) dX5_buyGas_14 rfl rfl ?_
    refine r_icmp_lt (q := 24) (q2 := 18) dX5_buyGas_15 (by decide) rfl (fun h15 => ?_) (fun h15 => ?_)
    · rw [if_pos h15] at hp
      refine r_bipush (q := 26) (v := (-3)) dX5_buyGas_24 (by decide) rfl ?_
      refine r_iret dX5_buyGas_26 rfl (Nat.le_of_ble_eq_true rfl) (Nat.le_of_ble_eq_true rfl) ?_
      exact hp
    · rw [if_neg h15] at hp
      refine r_iload_n (q := 19) dX5_buyGas_18 rfl rfl rfl ?_
      refine r_bipush (q := 21) (v := 12) dX5_buyGas_19 (by decide) rfl ?_
      refine r_icmp_le (q := 27) (q2 := 24) dX5_buyGas_21 (by decide) rfl (fun h21 => ?_) (fun h21 => ?_)
      · rw [if_pos h21] at hp
        refine r_aload_n (q := 28) dX5_buyGas_27 rfl rfl rfl ?_
        refine r_iload_n (q := 29) dX5_buyGas_28 rfl rfl rfl ?_
        refine r_callV (q := 32) (ci := 7) (As := [_]) dX5_buyGas_29 s_X5_buyGas_112 sto_g0 rfl rfl rfl (Nat.le_of_ble_eq_true rfl) rfl rfl rfl (Nat.le_of_ble_eq_true rfl) (Nat.le_of_ble_eq_true rfl) ⟨(Nat.le_of_ble_eq_true rfl), (Nat.le_of_ble_eq_true rfl)⟩ rfl ?_
        refine ct_X5_isTooDear (fun h62 => ?_) (fun h62 => ?_)
        · rw [if_pos h62] at hp
          refine r_if_eq (q := 37) (q2 := 35) dX5_buyGas_32 (by decide) rfl (fun _ => ?_) (fun h9 => absurd rfl h9)
          refine r_aload_n (q := 38) dX5_buyGas_37 rfl rfl rfl ?_
          refine r_dup (q := 39) dX5_buyGas_38 rfl rfl ?_
          refine r_getfield (q := 42) dX5_buyGas_39 f_X5_buyGas_62 sto_g0 rfl rfl ?_
          refine r_iload_n (q := 43) dX5_buyGas_42 rfl rfl rfl ?_
          refine r_isub (q := 44) dX5_buyGas_43 rfl ?_
          refine r_putfield (q := 47) dX5_buyGas_44 f_X5_buyGas_62 sto_g0 rfl rfl (Nat.le_of_ble_eq_true rfl) rfl ?_
          refine WF.cw (sto_p0 (k := 7) (by decide)) ?_
          refine r_aload_n (q := 48) dX5_buyGas_47 rfl rfl rfl ?_
          refine r_bipush (q := 50) (v := 60) dX5_buyGas_48 (by decide) rfl ?_
          refine r_aload_n (q := 51) dX5_buyGas_50 rfl rfl rfl ?_
          refine r_getfield (q := 54) dX5_buyGas_51 f_X5_buyGas_157 (sto_gG hg) (by rfl) rfl ?_
          refine r_iconst (q := 55) (v := 5) dX5_buyGas_54 rfl rfl ?_
          refine r_iload_n (q := 56) dX5_buyGas_55 rfl rfl rfl ?_
          refine r_imul (q := 57) dX5_buyGas_56 rfl ?_
          refine r_iadd (q := 58) dX5_buyGas_57 rfl ?_
          refine r_mmin (q := 61) dX5_buyGas_58 p_X5_buyGas_160 (Nat.le_of_ble_eq_true rfl) rfl (Nat.le_of_ble_eq_true rfl) (Nat.le_of_ble_eq_true rfl) ?_
          refine r_putfield (q := 64) dX5_buyGas_61 f_X5_buyGas_157 (sto_gG hg) rfl rfl (by exact Nat.le_of_ble_eq_true rfl) rfl ?_
          refine WF.cw (sto_pG (k := 0) hg) ?_
          refine r_aload_n (q := 65) dX5_buyGas_64 rfl rfl rfl ?_
          refine r_getfield (q := 68) dX5_buyGas_65 f_X5_buyGas_157 (sto_gG hg) (by rfl) rfl ?_
          refine r_iret dX5_buyGas_68 rfl (Nat.le_of_ble_eq_true rfl) (Nat.le_of_ble_eq_true rfl) ?_
          simp only [cG, cS, up2_s]; exact hp
        · rw [if_neg h62] at hp
          refine r_if_eq (q := 37) (q2 := 35) dX5_buyGas_32 (by decide) rfl (fun h9 => absurd h9 (by decide)) (fun _ => ?_)
          refine r_iconst (q := 36) (v := (-1)) dX5_buyGas_35 rfl rfl ?_
          refine r_iret dX5_buyGas_36 rfl (Nat.le_of_ble_eq_true rfl) (Nat.le_of_ble_eq_true rfl) ?_
          exact hp
      · rw [if_neg h21] at hp
        refine r_bipush (q := 26) (v := (-3)) dX5_buyGas_24 (by decide) rfl ?_
        refine r_iret dX5_buyGas_26 rfl (Nat.le_of_ble_eq_true rfl) (Nat.le_of_ble_eq_true rfl) ?_
        exact hp
  · rw [if_neg hh] at hp
    refine ct_X5_heaterAt_out hh ?_
    refine r_astore_nN (q := 6) dX5_buyGas_5 rfl (Nat.le_of_ble_eq_true rfl) (xone_of rfl) rfl ?_
    refine r_aload_nN (q := 7) dX5_buyGas_6 rfl rfl rfl ?_
    refine r_ifnonnullN (q := 10) dX5_buyGas_7 rfl ?_
    refine r_bipush (q := 12) (v := (-2)) dX5_buyGas_10 (by decide) rfl ?_
    refine r_iret dX5_buyGas_12 rfl (Nat.le_of_ble_eq_true rfl) (Nat.le_of_ble_eq_true rfl) ?_
    exact hp
set_option maxRecDepth 100000 in
set_option maxHeartbeats 4000000 in
theorem ct_X5_washTowels {E : xE} {Po : xPo} {w : xW} {b : Nat} {c : xCo} {x : Int32} (hp : Po (.inl (some (.int (washS c x).1))) (sto E w b (washS c x).2)) : Ct M_X5_washTowels E [.ref b, .int x] (sto E w b c) Po := by
  refine Ct.of (ws2 := xAll) (L := [some (.ref b), some (.int x), none]) (by decide +kernel) rfl rfl (List.forall_mem_cons.mpr ⟨rfl, List.forall_mem_cons.mpr ⟨rfl, fun _ h => absurd h List.not_mem_nil⟩⟩) (Nat.le_of_ble_eq_true rfl) rfl ?_
  unfold washS mn at hp
  refine r_iload_n (q := 1) dX5_washTowels_0 rfl rfl rfl ?_
  refine r_iconst (q := 2) (v := 1) dX5_washTowels_1 rfl rfl ?_
  refine r_icmp_lt (q := 11) (q2 := 5) dX5_washTowels_2 (by decide) rfl (fun h2 => ?_) (fun h2 => ?_)
  · rw [if_pos h2] at hp
    refine r_bipush (q := 13) (v := (-3)) dX5_washTowels_11 (by decide) rfl ?_
    refine r_iret dX5_washTowels_13 rfl (Nat.le_of_ble_eq_true rfl) (Nat.le_of_ble_eq_true rfl) ?_
    exact hp
  · rw [if_neg h2] at hp
    refine r_iload_n (q := 6) dX5_washTowels_5 rfl rfl rfl ?_
    refine r_bipush (q := 8) (v := 20) dX5_washTowels_6 (by decide) rfl ?_
    refine r_icmp_le (q := 14) (q2 := 11) dX5_washTowels_8 (by decide) rfl (fun h8 => ?_) (fun h8 => ?_)
    · rw [if_pos h8] at hp
      refine r_aload_n (q := 15) dX5_washTowels_14 rfl rfl rfl ?_
      refine r_getfield (q := 18) dX5_washTowels_15 f_X5_washTowels_50 sto_g0 rfl rfl ?_
      refine r_if_ne (q := 32) (q2 := 21) dX5_washTowels_18 (by decide) rfl (fun h18 => ?_) (fun h18 => ?_)
      · rw [if_neg h18] at hp
        refine r_iload_n (q := 33) dX5_washTowels_32 rfl rfl rfl ?_
        refine r_aload_n (q := 34) dX5_washTowels_33 rfl rfl rfl ?_
        refine r_getfield (q := 37) dX5_washTowels_34 f_X5_washTowels_50 sto_g0 rfl rfl ?_
        refine r_mmin (q := 40) dX5_washTowels_37 p_X5_washTowels_160 (Nat.le_of_ble_eq_true rfl) rfl (Nat.le_of_ble_eq_true rfl) (Nat.le_of_ble_eq_true rfl) ?_
        refine r_istore_n (q := 41) dX5_washTowels_40 rfl (Nat.le_of_ble_eq_true rfl) (xone_of rfl) rfl ?_
        refine r_aload_n (q := 42) dX5_washTowels_41 rfl rfl rfl ?_
        refine r_iload_n (q := 43) dX5_washTowels_42 rfl rfl rfl ?_
        refine r_callV (q := 46) (ci := 7) (As := [_]) dX5_washTowels_43 s_X5_washTowels_112 sto_g0 rfl rfl rfl (Nat.le_of_ble_eq_true rfl) rfl rfl rfl (Nat.le_of_ble_eq_true rfl) (Nat.le_of_ble_eq_true rfl) ⟨(Nat.le_of_ble_eq_true rfl), (Nat.le_of_ble_eq_true rfl)⟩ rfl ?_
        refine ct_X5_isTooDear (fun h62 => ?_) (fun h62 => ?_)
        · rw [if_pos h62] at hp
          refine r_if_eq (q := 51) (q2 := 49) dX5_washTowels_46 (by decide) rfl (fun _ => ?_) (fun h9 => absurd rfl h9)
          refine r_aload_n (q := 52) dX5_washTowels_51 rfl rfl rfl ?_
          refine r_dup (q := 53) dX5_washTowels_52 rfl rfl ?_
          refine r_getfield (q := 56) dX5_washTowels_53 f_X5_washTowels_62 sto_g0 rfl rfl ?_
          refine r_iload_n (q := 57) dX5_washTowels_56 rfl rfl rfl ?_
          refine r_isub (q := 58) dX5_washTowels_57 rfl ?_
          refine r_putfield (q := 61) dX5_washTowels_58 f_X5_washTowels_62 sto_g0 rfl rfl (Nat.le_of_ble_eq_true rfl) rfl ?_
          refine WF.cw (sto_p0 (k := 7) (by decide)) ?_
          refine r_aload_n (q := 62) dX5_washTowels_61 rfl rfl rfl ?_
          refine r_dup (q := 63) dX5_washTowels_62 rfl rfl ?_
          refine r_getfield (q := 66) dX5_washTowels_63 f_X5_washTowels_50 sto_g0 rfl rfl ?_
          refine r_iload_n (q := 67) dX5_washTowels_66 rfl rfl rfl ?_
          refine r_isub (q := 68) dX5_washTowels_67 rfl ?_
          refine r_putfield (q := 71) dX5_washTowels_68 f_X5_washTowels_50 sto_g0 rfl rfl (Nat.le_of_ble_eq_true rfl) rfl ?_
          refine WF.cw (sto_p0 (k := 5) (by decide)) ?_
          refine r_aload_n (q := 72) dX5_washTowels_71 rfl rfl rfl ?_
          refine r_dup (q := 73) dX5_washTowels_72 rfl rfl ?_
          refine r_getfield (q := 76) dX5_washTowels_73 f_X5_washTowels_47 sto_g0 rfl rfl ?_
          refine r_iload_n (q := 77) dX5_washTowels_76 rfl rfl rfl ?_
          refine r_iadd (q := 78) dX5_washTowels_77 rfl ?_
          refine r_putfield (q := 81) dX5_washTowels_78 f_X5_washTowels_47 sto_g0 rfl rfl (Nat.le_of_ble_eq_true rfl) rfl ?_
          refine WF.cw (sto_p0 (k := 4) (by decide)) ?_
          refine r_iload_n (q := 82) dX5_washTowels_81 rfl rfl rfl ?_
          refine r_iret dX5_washTowels_82 rfl (Nat.le_of_ble_eq_true rfl) (Nat.le_of_ble_eq_true rfl) ?_
          exact hp
        · rw [if_neg h62] at hp
          refine r_if_eq (q := 51) (q2 := 49) dX5_washTowels_46 (by decide) rfl (fun h9 => absurd h9 (by decide)) (fun _ => ?_)
          refine r_iconst (q := 50) (v := (-1)) dX5_washTowels_49 rfl rfl ?_
          refine r_iret dX5_washTowels_50 rfl (Nat.le_of_ble_eq_true rfl) (Nat.le_of_ble_eq_true rfl) ?_
          exact hp
      · rw [if_pos h18] at hp
        refine r_aload_n (q := 22) dX5_washTowels_21 rfl rfl rfl ?_
        refine r_getfield (q := 25) dX5_washTowels_22 f_X5_washTowels_10 sto_g0 rfl rfl ?_
        refine r_bipush (q := 27) (v := 13) dX5_washTowels_25 (by decide) rfl ?_
        refine r_iconst (q := 28) (v := 0) dX5_washTowels_27 rfl rfl ?_
        refine r_callV (q := 31) (ci := 6) (As := [_, _]) dX5_washTowels_28 s_X5_washTowels_82 sto_g1 rfl rfl rfl (Nat.le_of_ble_eq_true rfl) rfl rfl rfl (Nat.le_of_ble_eq_true rfl) (Nat.le_of_ble_eq_true rfl) ⟨(Nat.le_of_ble_eq_true rfl), (Nat.le_of_ble_eq_true rfl)⟩ rfl ?_
        refine ct_keepS ?_
        refine r_iret dX5_washTowels_31 rfl (Nat.le_of_ble_eq_true rfl) (Nat.le_of_ble_eq_true rfl) ?_
        exact hp
    · rw [if_neg h8] at hp
      refine r_bipush (q := 13) (v := (-3)) dX5_washTowels_11 (by decide) rfl ?_
      refine r_iret dX5_washTowels_13 rfl (Nat.le_of_ble_eq_true rfl) (Nat.le_of_ble_eq_true rfl) ?_
      exact hp
set_option maxRecDepth 100000 in
set_option maxHeartbeats 4000000 in
theorem ct_X5_buySoap {E : xE} {Po : xPo} {w : xW} {b : Nat} {c : xCo} {x : Int32} (hp : Po (.inl (some (.int (soapS c x).1))) (sto E w b (soapS c x).2)) : Ct M_X5_buySoap E [.ref b, .int x] (sto E w b c) Po := by
  refine Ct.of (ws2 := xAll) (L := [some (.ref b), some (.int x), none]) (by decide +kernel) rfl rfl (List.forall_mem_cons.mpr ⟨rfl, List.forall_mem_cons.mpr ⟨rfl, fun _ h => absurd h List.not_mem_nil⟩⟩) (Nat.le_of_ble_eq_true rfl) rfl ?_
  unfold soapS mn at hp
  refine r_iload_n (q := 1) dX5_buySoap_0 rfl rfl rfl ?_
  refine r_iconst (q := 2) (v := 1) dX5_buySoap_1 rfl rfl ?_
  refine r_icmp_lt (q := 11) (q2 := 5) dX5_buySoap_2 (by decide) rfl (fun h2 => ?_) (fun h2 => ?_)
  · rw [if_pos h2] at hp
    refine r_bipush (q := 13) (v := (-3)) dX5_buySoap_11 (by decide) rfl ?_
    refine r_iret dX5_buySoap_13 rfl (Nat.le_of_ble_eq_true rfl) (Nat.le_of_ble_eq_true rfl) ?_
    exact hp
  · rw [if_neg h2] at hp
    refine r_iload_n (q := 6) dX5_buySoap_5 rfl rfl rfl ?_
    refine r_bipush (q := 8) (v := 20) dX5_buySoap_6 (by decide) rfl ?_
    refine r_icmp_le (q := 14) (q2 := 11) dX5_buySoap_8 (by decide) rfl (fun h8 => ?_) (fun h8 => ?_)
    · rw [if_pos h8] at hp
      refine r_iload_n (q := 15) dX5_buySoap_14 rfl rfl rfl ?_
      refine r_bipush (q := 17) (v := 99) dX5_buySoap_15 (by decide) rfl ?_
      refine r_aload_n (q := 18) dX5_buySoap_17 rfl rfl rfl ?_
      refine r_getfield (q := 21) dX5_buySoap_18 f_X5_buySoap_59 sto_g0 rfl rfl ?_
      refine r_isub (q := 22) dX5_buySoap_21 rfl ?_
      refine r_mmin (q := 25) dX5_buySoap_22 p_X5_buySoap_160 (Nat.le_of_ble_eq_true rfl) rfl (Nat.le_of_ble_eq_true rfl) (Nat.le_of_ble_eq_true rfl) ?_
      refine r_istore_n (q := 26) dX5_buySoap_25 rfl (Nat.le_of_ble_eq_true rfl) (xone_of rfl) rfl ?_
      refine r_aload_n (q := 27) dX5_buySoap_26 rfl rfl rfl ?_
      refine r_iload_n (q := 28) dX5_buySoap_27 rfl rfl rfl ?_
      refine r_callV (q := 31) (ci := 7) (As := [_]) dX5_buySoap_28 s_X5_buySoap_112 sto_g0 rfl rfl rfl (Nat.le_of_ble_eq_true rfl) rfl rfl rfl (Nat.le_of_ble_eq_true rfl) (Nat.le_of_ble_eq_true rfl) ⟨(Nat.le_of_ble_eq_true rfl), (Nat.le_of_ble_eq_true rfl)⟩ rfl ?_
      refine ct_X5_isTooDear (fun h62 => ?_) (fun h62 => ?_)
      · rw [if_pos h62] at hp
        refine r_if_eq (q := 36) (q2 := 34) dX5_buySoap_31 (by decide) rfl (fun _ => ?_) (fun h9 => absurd rfl h9)
        refine r_aload_n (q := 37) dX5_buySoap_36 rfl rfl rfl ?_
        refine r_dup (q := 38) dX5_buySoap_37 rfl rfl ?_
        refine r_getfield (q := 41) dX5_buySoap_38 f_X5_buySoap_62 sto_g0 rfl rfl ?_
        refine r_iload_n (q := 42) dX5_buySoap_41 rfl rfl rfl ?_
        refine r_isub (q := 43) dX5_buySoap_42 rfl ?_
        refine r_putfield (q := 46) dX5_buySoap_43 f_X5_buySoap_62 sto_g0 rfl rfl (Nat.le_of_ble_eq_true rfl) rfl ?_
        refine WF.cw (sto_p0 (k := 7) (by decide)) ?_
        refine r_aload_n (q := 47) dX5_buySoap_46 rfl rfl rfl ?_
        refine r_dup (q := 48) dX5_buySoap_47 rfl rfl ?_
        refine r_getfield (q := 51) dX5_buySoap_48 f_X5_buySoap_59 sto_g0 rfl rfl ?_
        refine r_iload_n (q := 52) dX5_buySoap_51 rfl rfl rfl ?_
        refine r_iadd (q := 53) dX5_buySoap_52 rfl ?_
        refine r_putfield (q := 56) dX5_buySoap_53 f_X5_buySoap_59 sto_g0 rfl rfl (Nat.le_of_ble_eq_true rfl) rfl ?_
        refine WF.cw (sto_p0 (k := 6) (by decide)) ?_
        refine r_aload_n (q := 57) dX5_buySoap_56 rfl rfl rfl ?_
        refine r_getfield (q := 60) dX5_buySoap_57 f_X5_buySoap_59 sto_g0 rfl rfl ?_
        refine r_iret dX5_buySoap_60 rfl (Nat.le_of_ble_eq_true rfl) (Nat.le_of_ble_eq_true rfl) ?_
        exact hp
      · rw [if_neg h62] at hp
        refine r_if_eq (q := 36) (q2 := 34) dX5_buySoap_31 (by decide) rfl (fun h9 => absurd h9 (by decide)) (fun _ => ?_)
        refine r_iconst (q := 35) (v := (-1)) dX5_buySoap_34 rfl rfl ?_
        refine r_iret dX5_buySoap_35 rfl (Nat.le_of_ble_eq_true rfl) (Nat.le_of_ble_eq_true rfl) ?_
        exact hp
    · rw [if_neg h8] at hp
      refine r_bipush (q := 13) (v := (-3)) dX5_buySoap_11 (by decide) rfl ?_
      refine r_iret dX5_buySoap_13 rfl (Nat.le_of_ble_eq_true rfl) (Nat.le_of_ble_eq_true rfl) ?_
      exact hp
set_option maxRecDepth 100000 in
set_option maxHeartbeats 4000000 in
theorem ct_X5_burnsGas {E : xE} {Po : xPo} {w : xW} {b : Nat} {c : xCo} {h : Int32} (hp : Po (.inl (some (.int (burnS c h).1))) (sto E w b (burnS c h).2)) : Ct M_X5_burnsGas E [.ref b, .int h] (sto E w b c) Po := by
  refine Ct.of (ws2 := xAll) (L := [some (.ref b), some (.int h), none]) (by decide +kernel) rfl rfl (List.forall_mem_cons.mpr ⟨rfl, List.forall_mem_cons.mpr ⟨rfl, fun _ h => absurd h List.not_mem_nil⟩⟩) (Nat.le_of_ble_eq_true rfl) rfl ?_
  unfold burnS at hp
  refine r_aload_n (q := 1) dX5_burnsGas_0 rfl rfl rfl ?_
  refine r_iload_n (q := 2) dX5_burnsGas_1 rfl rfl rfl ?_
  refine r_callV (q := 5) (ci := 7) (As := [_]) dX5_burnsGas_2 s_X5_burnsGas_149 sto_g0 rfl rfl rfl (Nat.le_of_ble_eq_true rfl) rfl rfl rfl (Nat.le_of_ble_eq_true rfl) (Nat.le_of_ble_eq_true rfl) ⟨(Nat.le_of_ble_eq_true rfl), (Nat.le_of_ble_eq_true rfl)⟩ rfl ?_
  by_cases hh : okG c h
  · rw [if_pos hh] at hp
    obtain ⟨g, hg, rfl⟩ := hh.ix
    rw [nI_cl (by omega)] at hp
    refine ct_X5_heaterAt_in hg hh ?_
    refine r_astore_n (q := 6) dX5_burnsGas_5 rfl (Nat.le_of_ble_eq_true rfl) (xone_of rfl) rfl ?_
    refine r_aload_n (q := 7) dX5_burnsGas_6 rfl rfl rfl ?_
    refine r_ifnull (q := 10) dX5_burnsGas_7 rfl ?_
    refine r_aload_n (q := 11) dX5_burnsGas_10 rfl rfl rfl ?_
    refine r_getfield (q := 14) dX5_burnsGas_11 f_X5_burnsGas_157 (sto_gG hg) (by rfl) rfl ?_
    refine r_if_gt (q := 19) (q2 := 17) dX5_burnsGas_14 (by decide) rfl (fun h14 => ?_) (fun h14 => ?_)
    · rw [if_pos h14] at hp
      refine r_aload_n (q := 20) dX5_burnsGas_19 rfl rfl rfl ?_
      refine r_dup (q := 21) dX5_burnsGas_20 rfl rfl ?_
      refine r_getfield (q := 24) dX5_burnsGas_21 f_X5_burnsGas_157 (sto_gG hg) (by rfl) rfl ?_
      refine r_iconst (q := 25) (v := 1) dX5_burnsGas_24 rfl rfl ?_
      refine r_isub (q := 26) dX5_burnsGas_25 rfl ?_
      refine r_putfield (q := 29) dX5_burnsGas_26 f_X5_burnsGas_157 (sto_gG hg) rfl rfl (by exact Nat.le_of_ble_eq_true rfl) rfl ?_
      refine WF.cw (sto_pG (k := 0) hg) ?_
      refine r_iconst (q := 30) (v := 1) dX5_burnsGas_29 rfl rfl ?_
      refine r_zret dX5_burnsGas_30 rfl (by decide) (Nat.le_of_ble_eq_true rfl) (Nat.le_of_ble_eq_true rfl) ?_
      exact hp
    · rw [if_neg h14] at hp
      refine r_iconst (q := 18) (v := 0) dX5_burnsGas_17 rfl rfl ?_
      refine r_zret dX5_burnsGas_18 rfl (by decide) (Nat.le_of_ble_eq_true rfl) (Nat.le_of_ble_eq_true rfl) ?_
      exact hp
  · rw [if_neg hh] at hp
    refine ct_X5_heaterAt_out hh ?_
    refine r_astore_nN (q := 6) dX5_burnsGas_5 rfl (Nat.le_of_ble_eq_true rfl) (xone_of rfl) rfl ?_
    refine r_aload_nN (q := 7) dX5_burnsGas_6 rfl rfl rfl ?_
    refine r_ifnullN (q := 17) dX5_burnsGas_7 (by decide) ?_
    refine r_iconst (q := 18) (v := 0) dX5_burnsGas_17 rfl rfl ?_
    refine r_zret dX5_burnsGas_18 rfl (by decide) (Nat.le_of_ble_eq_true rfl) (Nat.le_of_ble_eq_true rfl) ?_
    exact hp
set_option maxRecDepth 100000 in
set_option maxHeartbeats 4000000 in
theorem ct_X5_bathe {E : xE} {Po : xPo} {w : xW} {b u j : Nat} {c : xCo} (hu : u < 5) (hj : j < 8) (hp : Po (.inl none) (sto E w b (batheS c u j))) : Ct M_X5_bathe E [.ref b, .ref (b + 13 + 2 * u), .ref (b + 5 + j)] (sto E w b c) Po := by
  refine Ct.of (ws2 := xAll) (L := [some (.ref b), some (.ref (b + 13 + 2 * u)), some (.ref (b + 5 + j))]) (by decide +kernel) rfl rfl (List.forall_mem_cons.mpr ⟨rfl, List.forall_mem_cons.mpr ⟨rfl, List.forall_mem_cons.mpr ⟨rfl, fun _ h => absurd h List.not_mem_nil⟩⟩⟩) (Nat.le_of_ble_eq_true rfl) rfl ?_
  unfold batheS at hp
  generalize hA : bthA c j = cA at hp
  refine r_aload_n (q := 1) dX5_bathe_0 rfl rfl rfl ?_
  refine r_dup (q := 2) dX5_bathe_1 rfl rfl ?_
  refine r_getfield (q := 5) dX5_bathe_2 f_X5_bathe_59 sto_g0 rfl rfl ?_
  refine r_iconst (q := 6) (v := 1) dX5_bathe_5 rfl rfl ?_
  refine r_isub (q := 7) dX5_bathe_6 rfl ?_
  refine r_putfield (q := 10) dX5_bathe_7 f_X5_bathe_59 sto_g0 rfl rfl (Nat.le_of_ble_eq_true rfl) rfl ?_
  refine WF.cw (sto_p0 (k := 6) (by decide)) ?_
  refine r_aload_n (q := 11) dX5_bathe_10 rfl rfl rfl ?_
  refine r_dup (q := 12) dX5_bathe_11 rfl rfl ?_
  refine r_getfield (q := 15) dX5_bathe_12 f_X5_bathe_62 sto_g0 rfl rfl ?_
  refine r_aload_n (q := 16) dX5_bathe_15 rfl rfl rfl ?_
  refine r_getfield (q := 19) dX5_bathe_16 f_X5_bathe_184 (sto_gT hj) (by rfl) rfl ?_
  refine r_bipush (q := 21) (v := 45) dX5_bathe_19 (by decide) rfl ?_
  refine r_icmp_lt (q := 28) (q2 := 24) dX5_bathe_21 (by decide) rfl (fun h21 => ?_) (fun h21 => ?_)
  · simp only [bthA, if_pos h21] at hA
    refine r_iconst (q := 29) (v := 3) dX5_bathe_28 rfl rfl ?_
    refine r_iadd (q := 30) dX5_bathe_29 rfl ?_
    refine r_putfield (q := 33) dX5_bathe_30 f_X5_bathe_62 sto_g0 rfl rfl (Nat.le_of_ble_eq_true rfl) rfl ?_
    refine WF.cw (sto_p0 (k := 7) (by decide)) ?_
    refine r_aload_n (q := 34) dX5_bathe_33 rfl rfl rfl ?_
    refine r_dup (q := 35) dX5_bathe_34 rfl rfl ?_
    refine r_getfield (q := 38) dX5_bathe_35 f_X5_bathe_50 sto_g0 rfl rfl ?_
    refine r_iconst (q := 39) (v := 1) dX5_bathe_38 rfl rfl ?_
    refine r_iadd (q := 40) dX5_bathe_39 rfl ?_
    refine r_putfield (q := 43) dX5_bathe_40 f_X5_bathe_50 sto_g0 rfl rfl (Nat.le_of_ble_eq_true rfl) rfl ?_
    refine WF.cw (sto_p0 (k := 5) (by decide)) ?_
    refine r_aload_n (q := 44) dX5_bathe_43 rfl rfl rfl ?_
    refine r_dup (q := 45) dX5_bathe_44 rfl rfl ?_
    refine r_getfield (q := 48) dX5_bathe_45 f_X5_bathe_56 sto_g0 rfl rfl ?_
    refine r_iconst (q := 49) (v := 1) dX5_bathe_48 rfl rfl ?_
    refine r_iadd (q := 50) dX5_bathe_49 rfl ?_
    refine r_putfield (q := 53) dX5_bathe_50 f_X5_bathe_56 sto_g0 rfl rfl (Nat.le_of_ble_eq_true rfl) rfl ?_
    refine WF.cw (sto_p0 (k := 9) (by decide)) ?_
    refine WF.cw (show _ = sto E w b cA from by rw [← hA]; rfl) ?_
    refine r_aload_n (q := 54) dX5_bathe_53 rfl rfl rfl ?_
    refine r_callV (q := 57) (ci := 8) (As := []) dX5_bathe_54 s_X5_bathe_200 (sto_gU hu) rfl rfl rfl (Nat.le_of_ble_eq_true rfl) rfl rfl rfl (Nat.le_of_ble_eq_true rfl) (Nat.le_of_ble_eq_true rfl) ⟨(Nat.le_of_ble_eq_true rfl), (Nat.le_of_ble_eq_true rfl)⟩ rfl ?_
    refine ct_X6_removeFirst (sto_gU hu) (sto_gV hu) (by omega) ?_
    rw [sto_sh hu]
    refine r_aload_n (q := 58) dX5_bathe_57 rfl rfl rfl ?_
    refine r_dup (q := 59) dX5_bathe_58 rfl rfl ?_
    refine r_getfield (q := 62) dX5_bathe_59 f_X5_bathe_203 (sto_gU hu) (by rfl) rfl ?_
    refine r_iconst (q := 63) (v := 1) dX5_bathe_62 rfl rfl ?_
    refine r_iadd (q := 64) dX5_bathe_63 rfl ?_
    refine r_putfield (q := 67) dX5_bathe_64 f_X5_bathe_203 (sto_gU hu) rfl rfl (by exact Nat.le_of_ble_eq_true rfl) rfl ?_
    refine WF.cw (sto_pU (k := 3) hu (by decide)) ?_
    refine r_aload_n (q := 68) dX5_bathe_67 rfl rfl rfl ?_
    refine r_iconst (q := 69) (v := 1) dX5_bathe_68 rfl rfl ?_
    refine r_putfield (q := 72) dX5_bathe_69 f_X5_bathe_171 (sto_gT hj) rfl rfl (by exact Nat.le_of_ble_eq_true rfl) rfl ?_
    refine WF.cw (sto_pT (k := 5) (x := 1) hj) ?_
    generalize hB : bthB cA u = cB at hp
    refine WF.cw (show _ = sto E w b (cT cB j 5 1) from by rw [← hB]; rfl) ?_
    refine r_aload_n (q := 73) dX5_bathe_72 rfl rfl rfl ?_
    refine r_dup (q := 74) dX5_bathe_73 rfl rfl ?_
    refine r_getfield (q := 77) dX5_bathe_74 f_X5_bathe_122 (sto_gT hj) (by rfl) rfl ?_
    refine r_iconst (q := 78) (v := 1) dX5_bathe_77 rfl rfl ?_
    refine r_iadd (q := 79) dX5_bathe_78 rfl ?_
    refine r_putfield (q := 82) dX5_bathe_79 f_X5_bathe_122 (sto_gT hj) rfl rfl (by exact Nat.le_of_ble_eq_true rfl) rfl ?_
    refine WF.cw (sto_pT (k := 6) hj) ?_
    generalize hD : bthC cB j = cD at hp
    refine WF.cw (show _ = sto E w b cD from by rw [← hD]; rfl) ?_
    unfold bthD at hp
    refine r_aload_n (q := 83) dX5_bathe_82 rfl rfl rfl ?_
    refine r_getfield (q := 86) dX5_bathe_83 f_X5_bathe_122 (sto_gT hj) (by rfl) rfl ?_
    refine r_iconst (q := 87) (v := 4) dX5_bathe_86 rfl rfl ?_
    refine r_irem (q := 88) dX5_bathe_87 (by decide) rfl ?_
    refine r_if_ne (q := 114) (q2 := 91) dX5_bathe_88 (by decide) rfl (fun h88 => ?_) (fun h88 => ?_)
    · rw [if_neg h88] at hp
      refine r_vret dX5_bathe_114 rfl (Nat.le_of_ble_eq_true rfl) (Nat.le_of_ble_eq_true rfl) ?_
      exact hp
    · rw [if_pos h88] at hp
      refine r_aload_n (q := 92) dX5_bathe_91 rfl rfl rfl ?_
      refine r_dup (q := 93) dX5_bathe_92 rfl rfl ?_
      refine r_getfield (q := 96) dX5_bathe_93 f_X5_bathe_99 (sto_gT hj) (by rfl) rfl ?_
      refine r_iconst (q := 97) (v := 1) dX5_bathe_96 rfl rfl ?_
      refine r_aload_n (q := 98) dX5_bathe_97 rfl rfl rfl ?_
      refine r_getfield (q := 101) dX5_bathe_98 f_X5_bathe_133 (sto_gU hu) (by rfl) rfl ?_
      refine r_aload_n (q := 102) dX5_bathe_101 rfl rfl rfl ?_
      refine r_getfield (q := 105) dX5_bathe_102 f_X5_bathe_122 (sto_gT hj) (by rfl) rfl ?_
      refine r_iadd (q := 106) dX5_bathe_105 rfl ?_
      refine r_bipush (q := 108) (v := 8) dX5_bathe_106 (by decide) rfl ?_
      refine r_irem (q := 109) dX5_bathe_108 (by decide) rfl ?_
      refine r_ishl (q := 110) dX5_bathe_109 rfl ?_
      refine r_ior (q := 111) dX5_bathe_110 rfl ?_
      refine r_putfield (q := 114) dX5_bathe_111 f_X5_bathe_99 (sto_gT hj) rfl rfl (by exact Nat.le_of_ble_eq_true rfl) rfl ?_
      refine WF.cw (sto_pT (k := 2) hj) ?_
      refine r_vret dX5_bathe_114 rfl (Nat.le_of_ble_eq_true rfl) (Nat.le_of_ble_eq_true rfl) ?_
      exact hp
  · simp only [bthA, if_neg h21] at hA
    refine r_iconst (q := 25) (v := 4) dX5_bathe_24 rfl rfl ?_
    refine r_goto (q := 29) dX5_bathe_25 (by decide) ?_
    refine r_iadd (q := 30) dX5_bathe_29 rfl ?_
    refine r_putfield (q := 33) dX5_bathe_30 f_X5_bathe_62 sto_g0 rfl rfl (Nat.le_of_ble_eq_true rfl) rfl ?_
    refine WF.cw (sto_p0 (k := 7) (by decide)) ?_
    refine r_aload_n (q := 34) dX5_bathe_33 rfl rfl rfl ?_
    refine r_dup (q := 35) dX5_bathe_34 rfl rfl ?_
    refine r_getfield (q := 38) dX5_bathe_35 f_X5_bathe_50 sto_g0 rfl rfl ?_
    refine r_iconst (q := 39) (v := 1) dX5_bathe_38 rfl rfl ?_
    refine r_iadd (q := 40) dX5_bathe_39 rfl ?_
    refine r_putfield (q := 43) dX5_bathe_40 f_X5_bathe_50 sto_g0 rfl rfl (Nat.le_of_ble_eq_true rfl) rfl ?_
    refine WF.cw (sto_p0 (k := 5) (by decide)) ?_
    refine r_aload_n (q := 44) dX5_bathe_43 rfl rfl rfl ?_
    refine r_dup (q := 45) dX5_bathe_44 rfl rfl ?_
    refine r_getfield (q := 48) dX5_bathe_45 f_X5_bathe_56 sto_g0 rfl rfl ?_
    refine r_iconst (q := 49) (v := 1) dX5_bathe_48 rfl rfl ?_
    refine r_iadd (q := 50) dX5_bathe_49 rfl ?_
    refine r_putfield (q := 53) dX5_bathe_50 f_X5_bathe_56 sto_g0 rfl rfl (Nat.le_of_ble_eq_true rfl) rfl ?_
    refine WF.cw (sto_p0 (k := 9) (by decide)) ?_
    refine WF.cw (show _ = sto E w b cA from by rw [← hA]; rfl) ?_
    refine r_aload_n (q := 54) dX5_bathe_53 rfl rfl rfl ?_
    refine r_callV (q := 57) (ci := 8) (As := []) dX5_bathe_54 s_X5_bathe_200 (sto_gU hu) rfl rfl rfl (Nat.le_of_ble_eq_true rfl) rfl rfl rfl (Nat.le_of_ble_eq_true rfl) (Nat.le_of_ble_eq_true rfl) ⟨(Nat.le_of_ble_eq_true rfl), (Nat.le_of_ble_eq_true rfl)⟩ rfl ?_
    refine ct_X6_removeFirst (sto_gU hu) (sto_gV hu) (by omega) ?_
    rw [sto_sh hu]
    refine r_aload_n (q := 58) dX5_bathe_57 rfl rfl rfl ?_
    refine r_dup (q := 59) dX5_bathe_58 rfl rfl ?_
    refine r_getfield (q := 62) dX5_bathe_59 f_X5_bathe_203 (sto_gU hu) (by rfl) rfl ?_
    refine r_iconst (q := 63) (v := 1) dX5_bathe_62 rfl rfl ?_
    refine r_iadd (q := 64) dX5_bathe_63 rfl ?_
    refine r_putfield (q := 67) dX5_bathe_64 f_X5_bathe_203 (sto_gU hu) rfl rfl (by exact Nat.le_of_ble_eq_true rfl) rfl ?_
    refine WF.cw (sto_pU (k := 3) hu (by decide)) ?_
    refine r_aload_n (q := 68) dX5_bathe_67 rfl rfl rfl ?_
    refine r_iconst (q := 69) (v := 1) dX5_bathe_68 rfl rfl ?_
    refine r_putfield (q := 72) dX5_bathe_69 f_X5_bathe_171 (sto_gT hj) rfl rfl (by exact Nat.le_of_ble_eq_true rfl) rfl ?_
    refine WF.cw (sto_pT (k := 5) (x := 1) hj) ?_
    generalize hB : bthB cA u = cB at hp
    refine WF.cw (show _ = sto E w b (cT cB j 5 1) from by rw [← hB]; rfl) ?_
    refine r_aload_n (q := 73) dX5_bathe_72 rfl rfl rfl ?_
    refine r_dup (q := 74) dX5_bathe_73 rfl rfl ?_
    refine r_getfield (q := 77) dX5_bathe_74 f_X5_bathe_122 (sto_gT hj) (by rfl) rfl ?_
    refine r_iconst (q := 78) (v := 1) dX5_bathe_77 rfl rfl ?_
    refine r_iadd (q := 79) dX5_bathe_78 rfl ?_
    refine r_putfield (q := 82) dX5_bathe_79 f_X5_bathe_122 (sto_gT hj) rfl rfl (by exact Nat.le_of_ble_eq_true rfl) rfl ?_
    refine WF.cw (sto_pT (k := 6) hj) ?_
    generalize hD : bthC cB j = cD at hp
    refine WF.cw (show _ = sto E w b cD from by rw [← hD]; rfl) ?_
    unfold bthD at hp
    refine r_aload_n (q := 83) dX5_bathe_82 rfl rfl rfl ?_
    refine r_getfield (q := 86) dX5_bathe_83 f_X5_bathe_122 (sto_gT hj) (by rfl) rfl ?_
    refine r_iconst (q := 87) (v := 4) dX5_bathe_86 rfl rfl ?_
    refine r_irem (q := 88) dX5_bathe_87 (by decide) rfl ?_
    refine r_if_ne (q := 114) (q2 := 91) dX5_bathe_88 (by decide) rfl (fun h88 => ?_) (fun h88 => ?_)
    · rw [if_neg h88] at hp
      refine r_vret dX5_bathe_114 rfl (Nat.le_of_ble_eq_true rfl) (Nat.le_of_ble_eq_true rfl) ?_
      exact hp
    · rw [if_pos h88] at hp
      refine r_aload_n (q := 92) dX5_bathe_91 rfl rfl rfl ?_
      refine r_dup (q := 93) dX5_bathe_92 rfl rfl ?_
      refine r_getfield (q := 96) dX5_bathe_93 f_X5_bathe_99 (sto_gT hj) (by rfl) rfl ?_
      refine r_iconst (q := 97) (v := 1) dX5_bathe_96 rfl rfl ?_
      refine r_aload_n (q := 98) dX5_bathe_97 rfl rfl rfl ?_
      refine r_getfield (q := 101) dX5_bathe_98 f_X5_bathe_133 (sto_gU hu) (by rfl) rfl ?_
      refine r_aload_n (q := 102) dX5_bathe_101 rfl rfl rfl ?_
      refine r_getfield (q := 105) dX5_bathe_102 f_X5_bathe_122 (sto_gT hj) (by rfl) rfl ?_
      refine r_iadd (q := 106) dX5_bathe_105 rfl ?_
      refine r_bipush (q := 108) (v := 8) dX5_bathe_106 (by decide) rfl ?_
      refine r_irem (q := 109) dX5_bathe_108 (by decide) rfl ?_
      refine r_ishl (q := 110) dX5_bathe_109 rfl ?_
      refine r_ior (q := 111) dX5_bathe_110 rfl ?_
      refine r_putfield (q := 114) dX5_bathe_111 f_X5_bathe_99 (sto_gT hj) rfl rfl (by exact Nat.le_of_ble_eq_true rfl) rfl ?_
      refine WF.cw (sto_pT (k := 2) hj) ?_
      refine r_vret dX5_bathe_114 rfl (Nat.le_of_ble_eq_true rfl) (Nat.le_of_ble_eq_true rfl) ?_
      exact hp
