/-! ===== 15.store4: hours, sums (rows laid by wip/p39/gen/store4.py) ===== -/
set_option maxRecDepth 100000 in
set_option maxHeartbeats 4000000 in
theorem lp_X5_hourTail {E : xE} {Po : xPo} {w w0 : xW} {b u j : Nat} {c : xCo} (hu : u < 5) (hj : j < 8) (hp : Po (.inl none) (sto E w b (tailS c u j))) : WF M_X5_letHourGoIn E Po w0 106 [some (.ref b), some (.ref (b + 13 + 2 * u)), some (.ref (b + 5 + j))] [] (sto E w b c) 0 0 := by
  unfold tailS at hp
  refine r_aload_n (q := 107) dX5_letHourGoIn_106 rfl rfl rfl ?_
  refine r_getfield (q := 110) dX5_letHourGoIn_107 f_X5_letHourGoIn_184 (sto_gT hj) (by rfl) rfl ?_
  refine r_bipush (q := 112) (v := 60) dX5_letHourGoIn_110 (by decide) rfl ?_
  refine r_icmp_ge (q := 144) (q2 := 115) dX5_letHourGoIn_112 (by decide) rfl (fun h112 => ?_) (fun h112 => ?_)
  · rw [if_pos h112] at hp
    refine r_aload_n (q := 145) dX5_letHourGoIn_144 rfl rfl rfl ?_
    refine r_bipush (q := 147) (v := 10) dX5_letHourGoIn_145 (by decide) rfl ?_
    refine r_aload_n (q := 148) dX5_letHourGoIn_147 rfl rfl rfl ?_
    refine r_getfield (q := 151) dX5_letHourGoIn_148 f_X5_letHourGoIn_184 (sto_gT hj) (by rfl) rfl ?_
    refine r_iconst (q := 152) (v := 1) dX5_letHourGoIn_151 rfl rfl ?_
    refine r_isub (q := 153) dX5_letHourGoIn_152 rfl ?_
    refine r_mmax (q := 156) dX5_letHourGoIn_153 p_X5_letHourGoIn_197 (Nat.le_of_ble_eq_true rfl) rfl (Nat.le_of_ble_eq_true rfl) (Nat.le_of_ble_eq_true rfl) ?_
    refine r_putfield (q := 159) dX5_letHourGoIn_156 f_X5_letHourGoIn_184 (sto_gT hj) rfl rfl (by exact Nat.le_of_ble_eq_true rfl) rfl ?_
    refine WF.cw (sto_pT (k := 4) hj) ?_
    refine r_vret dX5_letHourGoIn_159 rfl (Nat.le_of_ble_eq_true rfl) (Nat.le_of_ble_eq_true rfl) ?_
    first | exact hp | (rw [e2]; exact hp)
  · rw [if_neg h112] at hp
    refine r_aload_n (q := 116) dX5_letHourGoIn_115 rfl rfl rfl ?_
    refine r_aload_n (q := 117) dX5_letHourGoIn_116 rfl rfl rfl ?_
    refine r_getfield (q := 120) dX5_letHourGoIn_117 f_X5_letHourGoIn_154 (sto_gU hu) (by rfl) rfl ?_
    refine r_callV (q := 123) (ci := 7) (As := [_]) dX5_letHourGoIn_120 s_X5_letHourGoIn_191 sto_g0 rfl rfl rfl (Nat.le_of_ble_eq_true rfl) rfl rfl rfl (Nat.le_of_ble_eq_true rfl) (Nat.le_of_ble_eq_true rfl) ⟨(Nat.le_of_ble_eq_true rfl), (Nat.le_of_ble_eq_true rfl)⟩ rfl ?_
    refine ct_X5_burnsGas ?_
    obtain ⟨e1, e2, e3⟩ := burnS_1 (c := c) (h := c.2.2.1 u 2)
    generalize burnS c (c.2.2.1 u 2) = bc at hp e1 e2 e3 ⊢
    refine r_if_eq (q := 144) (q2 := 126) dX5_letHourGoIn_123 (by decide) rfl (fun h123 => ?_) (fun h123 => ?_)
    · rw [if_pos h123] at hp
      refine r_aload_n (q := 145) dX5_letHourGoIn_144 rfl rfl rfl ?_
      refine r_bipush (q := 147) (v := 10) dX5_letHourGoIn_145 (by decide) rfl ?_
      refine r_aload_n (q := 148) dX5_letHourGoIn_147 rfl rfl rfl ?_
      refine r_getfield (q := 151) dX5_letHourGoIn_148 f_X5_letHourGoIn_184 (sto_gT hj) (by rfl) rfl ?_
      refine r_iconst (q := 152) (v := 1) dX5_letHourGoIn_151 rfl rfl ?_
      refine r_isub (q := 153) dX5_letHourGoIn_152 rfl ?_
      refine r_mmax (q := 156) dX5_letHourGoIn_153 p_X5_letHourGoIn_197 (Nat.le_of_ble_eq_true rfl) rfl (Nat.le_of_ble_eq_true rfl) (Nat.le_of_ble_eq_true rfl) ?_
      refine r_putfield (q := 159) dX5_letHourGoIn_156 f_X5_letHourGoIn_184 (sto_gT hj) rfl rfl (by exact Nat.le_of_ble_eq_true rfl) rfl ?_
      refine WF.cw (sto_pT (k := 4) hj) ?_
      refine r_vret dX5_letHourGoIn_159 rfl (Nat.le_of_ble_eq_true rfl) (Nat.le_of_ble_eq_true rfl) ?_
      first | exact hp | (rw [e2]; exact hp)
    · rw [if_neg h123] at hp
      refine r_aload_n (q := 127) dX5_letHourGoIn_126 rfl rfl rfl ?_
      refine r_aload_n (q := 128) dX5_letHourGoIn_127 rfl rfl rfl ?_
      refine r_getfield (q := 131) dX5_letHourGoIn_128 f_X5_letHourGoIn_86 (sto_gT hj) (by rfl) rfl ?_
      rw [e2]
      refine r_aload_n (q := 132) dX5_letHourGoIn_131 rfl rfl rfl ?_
      refine r_getfield (q := 135) dX5_letHourGoIn_132 f_X5_letHourGoIn_184 (sto_gT hj) (by rfl) rfl ?_
      rw [e2]
      refine r_callS (q := 138) (As := [_, _]) dX5_letHourGoIn_135 s_X5_letHourGoIn_194 rfl rfl (Nat.le_of_ble_eq_true rfl) rfl rfl rfl (Nat.le_of_ble_eq_true rfl) (Nat.le_of_ble_eq_true rfl) ⟨(Nat.le_of_ble_eq_true rfl), (Nat.le_of_ble_eq_true rfl)⟩ rfl ?_
      refine ct_X8_heated ?_
      refine r_putfield (q := 141) dX5_letHourGoIn_138 f_X5_letHourGoIn_184 (sto_gT hj) rfl rfl (by exact Nat.le_of_ble_eq_true rfl) rfl ?_
      refine WF.cw (sto_pT (k := 4) hj) ?_
      refine r_goto (q := 159) dX5_letHourGoIn_141 (by decide) ?_
      refine r_vret dX5_letHourGoIn_159 rfl (Nat.le_of_ble_eq_true rfl) (Nat.le_of_ble_eq_true rfl) ?_
      first | exact hp | (rw [e2]; exact hp)
set_option maxRecDepth 100000 in
set_option maxHeartbeats 4000000 in
theorem ct_X5_letHourGoIn {E : xE} {Po : xPo} {w : xW} {b u : Nat} {c : xCo} (hu : u < 5) (hp : Po (.inl none) (sto E w b (hourInS c u))) : Ct M_X5_letHourGoIn E [.ref b, .ref (b + 13 + 2 * u)] (sto E w b c) Po := by
  refine Ct.of (ws2 := xAll) (L := [some (.ref b), some (.ref (b + 13 + 2 * u)), none]) (by decide +kernel) rfl rfl (List.forall_mem_cons.mpr ⟨rfl, List.forall_mem_cons.mpr ⟨rfl, fun _ h => absurd h List.not_mem_nil⟩⟩) (Nat.le_of_ble_eq_true rfl) rfl ?_
  unfold hourInS at hp
  refine r_aload_n (q := 1) dX5_letHourGoIn_0 rfl rfl rfl ?_
  refine r_ifnonnull (q := 8) dX5_letHourGoIn_1 (by decide) ?_
  refine r_aload_n (q := 9) dX5_letHourGoIn_8 rfl rfl rfl ?_
  refine r_aload_n (q := 10) dX5_letHourGoIn_9 rfl rfl rfl ?_
  refine r_getfield (q := 13) dX5_letHourGoIn_10 f_X5_letHourGoIn_133 (sto_gU hu) (by rfl) rfl ?_
  refine r_callV (q := 16) (ci := 7) (As := [_]) dX5_letHourGoIn_13 s_X5_letHourGoIn_92 sto_g0 rfl rfl rfl (Nat.le_of_ble_eq_true rfl) rfl rfl rfl (Nat.le_of_ble_eq_true rfl) (Nat.le_of_ble_eq_true rfl) ⟨(Nat.le_of_ble_eq_true rfl), (Nat.le_of_ble_eq_true rfl)⟩ rfl ?_
  by_cases ht : okT c (c.2.2.1 u 1)
  · rw [if_pos ht] at hp
    obtain ⟨j, hj, ej⟩ := ht.ix
    rw [ej] at ht hp ⊢
    rw [nI_cl (by omega)] at hp
    refine ct_X5_tubAt_in hj ht ?_
    refine r_astore_n (q := 17) dX5_letHourGoIn_16 rfl (Nat.le_of_ble_eq_true rfl) (xone_of rfl) rfl ?_
    refine r_aload_n (q := 18) dX5_letHourGoIn_17 rfl rfl rfl ?_
    refine r_ifnonnull (q := 22) dX5_letHourGoIn_18 (by decide) ?_
    refine r_aload_n (q := 23) dX5_letHourGoIn_22 rfl rfl rfl ?_
    refine r_iconst (q := 24) (v := 5) dX5_letHourGoIn_23 rfl rfl ?_
    refine r_aload_n (q := 25) dX5_letHourGoIn_24 rfl rfl rfl ?_
    refine r_callV (q := 28) (ci := 10) (As := []) dX5_letHourGoIn_25 s_X5_letHourGoIn_102 (sto_gT hj) rfl rfl rfl (Nat.le_of_ble_eq_true rfl) rfl rfl rfl (Nat.le_of_ble_eq_true rfl) (Nat.le_of_ble_eq_true rfl) ⟨(Nat.le_of_ble_eq_true rfl), (Nat.le_of_ble_eq_true rfl)⟩ rfl ?_
    refine ct_X8_tornSeams (sto_gT hj) ?_
    refine r_imul (q := 29) dX5_letHourGoIn_28 rfl ?_
    refine r_callV (q := 32) (ci := 10) (As := [_]) dX5_letHourGoIn_29 s_X5_letHourGoIn_168 (sto_gT hj) rfl rfl rfl (Nat.le_of_ble_eq_true rfl) rfl rfl rfl (Nat.le_of_ble_eq_true rfl) (Nat.le_of_ble_eq_true rfl) ⟨(Nat.le_of_ble_eq_true rfl), (Nat.le_of_ble_eq_true rfl)⟩ rfl ?_
    refine ct_X8_lose (sto_gT hj) ?_
    rw [sto_pT hj]
    generalize cT c j 3 (mx 0 (c.2.1 j 3 - 5 * bcS (c.2.1 j 2))) = c1 at hp ⊢
    unfold hour2S at hp
    refine r_aload_n (q := 33) dX5_letHourGoIn_32 rfl rfl rfl ?_
    refine r_getfield (q := 36) dX5_letHourGoIn_33 f_X5_letHourGoIn_171 (sto_gT hj) (by rfl) rfl ?_
    refine r_if_eq (q := 56) (q2 := 39) dX5_letHourGoIn_36 (by decide) rfl (fun h36 => ?_) (fun h36 => ?_)
    · rw [if_pos h36] at hp
      refine r_aload_n (q := 57) dX5_letHourGoIn_56 rfl rfl rfl ?_
      refine r_getfield (q := 60) dX5_letHourGoIn_57 f_X5_letHourGoIn_109 (sto_gT hj) (by rfl) rfl ?_
      refine r_aload_n (q := 61) dX5_letHourGoIn_60 rfl rfl rfl ?_
      refine r_callV (q := 64) (ci := 10) (As := []) dX5_letHourGoIn_61 s_X5_letHourGoIn_178 (sto_gT hj) rfl rfl rfl (Nat.le_of_ble_eq_true rfl) rfl rfl rfl (Nat.le_of_ble_eq_true rfl) (Nat.le_of_ble_eq_true rfl) ⟨(Nat.le_of_ble_eq_true rfl), (Nat.le_of_ble_eq_true rfl)⟩ rfl ?_
      refine ct_X8_fullLitres (sto_gT hj) ?_
      refine r_icmp_ge (q := 74) (q2 := 67) dX5_letHourGoIn_64 (by decide) rfl (fun h64 => ?_) (fun h64 => ?_)
      · rw [if_pos h64] at hp
        refine r_aload_n (q := 75) dX5_letHourGoIn_74 rfl rfl rfl ?_
        refine r_getfield (q := 78) dX5_letHourGoIn_75 f_X5_letHourGoIn_184 (sto_gT hj) (by rfl) rfl ?_
        refine r_bipush (q := 80) (v := 38) dX5_letHourGoIn_78 (by decide) rfl ?_
        refine r_icmp_lt (q := 106) (q2 := 83) dX5_letHourGoIn_80 (by decide) rfl (fun h80 => ?_) (fun h80 => ?_)
        · rw [if_pos h80] at hp
          exact lp_X5_hourTail hu hj hp
        · rw [if_neg h80] at hp
          refine r_aload_n (q := 84) dX5_letHourGoIn_83 rfl rfl rfl ?_
          refine r_getfield (q := 87) dX5_letHourGoIn_84 f_X5_letHourGoIn_139 (sto_gU hu) (by rfl) rfl ?_
          refine r_if_le (q := 106) (q2 := 90) dX5_letHourGoIn_87 (by decide) rfl (fun h87 => ?_) (fun h87 => ?_)
          · rw [if_pos h87] at hp
            exact lp_X5_hourTail hu hj hp
          · rw [if_neg h87] at hp
            refine r_aload_n (q := 91) dX5_letHourGoIn_90 rfl rfl rfl ?_
            refine r_getfield (q := 94) dX5_letHourGoIn_91 f_X5_letHourGoIn_59 sto_g0 rfl rfl ?_
            refine r_if_le (q := 106) (q2 := 97) dX5_letHourGoIn_94 (by decide) rfl (fun h94 => ?_) (fun h94 => ?_)
            · rw [if_pos h94] at hp
              exact lp_X5_hourTail hu hj hp
            · rw [if_neg h94] at hp
              refine r_aload_n (q := 98) dX5_letHourGoIn_97 rfl rfl rfl ?_
              refine r_aload_n (q := 99) dX5_letHourGoIn_98 rfl rfl rfl ?_
              refine r_aload_n (q := 100) dX5_letHourGoIn_99 rfl rfl rfl ?_
              refine r_callV (q := 103) (ci := 7) (As := [_, _]) dX5_letHourGoIn_100 s_X5_letHourGoIn_187 sto_g0 rfl rfl rfl (Nat.le_of_ble_eq_true rfl) rfl rfl rfl (Nat.le_of_ble_eq_true rfl) (Nat.le_of_ble_eq_true rfl) ⟨(Nat.le_of_ble_eq_true rfl), (Nat.le_of_ble_eq_true rfl)⟩ rfl ?_
              refine ct_X5_bathe hu hj ?_
              refine r_goto (q := 159) dX5_letHourGoIn_103 (by decide) ?_
              refine r_vret dX5_letHourGoIn_159 rfl (Nat.le_of_ble_eq_true rfl) (Nat.le_of_ble_eq_true rfl) ?_
              exact hp
      · rw [if_neg h64] at hp
        refine r_aload_n (q := 68) dX5_letHourGoIn_67 rfl rfl rfl ?_
        refine r_callV (q := 71) (ci := 10) (As := []) dX5_letHourGoIn_68 s_X5_letHourGoIn_181 (sto_gT hj) rfl rfl rfl (Nat.le_of_ble_eq_true rfl) rfl rfl rfl (Nat.le_of_ble_eq_true rfl) (Nat.le_of_ble_eq_true rfl) ⟨(Nat.le_of_ble_eq_true rfl), (Nat.le_of_ble_eq_true rfl)⟩ rfl ?_
        refine ct_X8_fill (sto_gT hj) ?_
        rw [sto_pT2 hj]
        refine r_goto (q := 159) dX5_letHourGoIn_71 (by decide) ?_
        refine r_vret dX5_letHourGoIn_159 rfl (Nat.le_of_ble_eq_true rfl) (Nat.le_of_ble_eq_true rfl) ?_
        exact hp
    · rw [if_neg h36] at hp
      refine r_aload_n (q := 40) dX5_letHourGoIn_39 rfl rfl rfl ?_
      refine r_bipush (q := 42) (v := 20) dX5_letHourGoIn_40 (by decide) rfl ?_
      refine r_bipush (q := 44) (v := 10) dX5_letHourGoIn_42 (by decide) rfl ?_
      refine r_aload_n (q := 45) dX5_letHourGoIn_44 rfl rfl rfl ?_
      refine r_getfield (q := 48) dX5_letHourGoIn_45 f_X5_letHourGoIn_89 (sto_gU hu) (by rfl) rfl ?_
      refine r_imul (q := 49) dX5_letHourGoIn_48 rfl ?_
      refine r_iadd (q := 50) dX5_letHourGoIn_49 rfl ?_
      refine r_callV (q := 53) (ci := 10) (As := [_]) dX5_letHourGoIn_50 s_X5_letHourGoIn_175 (sto_gT hj) rfl rfl rfl (Nat.le_of_ble_eq_true rfl) rfl rfl rfl (Nat.le_of_ble_eq_true rfl) (Nat.le_of_ble_eq_true rfl) ⟨(Nat.le_of_ble_eq_true rfl), (Nat.le_of_ble_eq_true rfl)⟩ rfl ?_
      refine ct_X8_drain (sto_gT hj) ?_
      by_cases hl : mx 0 (c1.2.1 j 3 - (20 + 10 * c1.2.2.1 u 0)) = 0
      · rw [if_pos hl] at hp ⊢
        rw [sto_pT2 hj]
        refine r_goto (q := 159) dX5_letHourGoIn_53 (by decide) ?_
        refine r_vret dX5_letHourGoIn_159 rfl (Nat.le_of_ble_eq_true rfl) (Nat.le_of_ble_eq_true rfl) ?_
        exact hp
      · rw [if_neg hl] at hp ⊢
        rw [sto_pT hj]
        refine r_goto (q := 159) dX5_letHourGoIn_53 (by decide) ?_
        refine r_vret dX5_letHourGoIn_159 rfl (Nat.le_of_ble_eq_true rfl) (Nat.le_of_ble_eq_true rfl) ?_
        exact hp
  · rw [if_neg ht] at hp
    refine ct_X5_tubAt_out ht ?_
    refine r_astore_nN (q := 17) dX5_letHourGoIn_16 rfl (Nat.le_of_ble_eq_true rfl) (xone_of rfl) rfl ?_
    refine r_aload_nN (q := 18) dX5_letHourGoIn_17 rfl rfl rfl ?_
    refine r_ifnonnullN (q := 21) dX5_letHourGoIn_18 rfl ?_
    refine r_vret dX5_letHourGoIn_21 rfl (Nat.le_of_ble_eq_true rfl) (Nat.le_of_ble_eq_true rfl) ?_
    exact hp
theorem tailS_1 {c : xCo} {u j : Nat} : (tailS c u j).1 = c.1 := by
  unfold tailS
  obtain ⟨e1, e2, e3⟩ := burnS_1 (c := c) (h := c.2.2.1 u 2)
  split
  · rfl
  · split
    · exact e1
    · exact e1
theorem bthD_1 {d : xCo} {u j : Nat} : (bthD d u j).1 = d.1 := by
  unfold bthD
  split <;> rfl
theorem batheS_1 {c : xCo} {u j k : Nat} (h : k < 5) : (batheS c u j).1 k = c.1 k := by
  unfold batheS
  rw [bthD_1]
  show (bthA c j).1 k = c.1 k
  unfold bthA
  simp only [cS]
  rw [upd_o (by omega), upd_o (by omega), upd_o (by omega), upd_o (by omega)]
theorem hour2S_1 {c : xCo} {u j k : Nat} (h : k < 5) : (hour2S c u j).1 k = c.1 k := by
  unfold hour2S
  split
  · split
    · split
      · rw [tailS_1]
      · split
        · rw [tailS_1]
        · split
          · rw [tailS_1]
          · exact batheS_1 h
    · rfl
  · split <;> rfl
theorem hourInS_1 {c : xCo} {u k : Nat} (h : k < 5) : (hourInS c u).1 k = c.1 k := by
  unfold hourInS
  split
  · exact hour2S_1 h
  · rfl
def hrsT : Nat → Nat → xCo → xCo
  | 0, _, c => c
  | n + 1, i, c => hrsT n (i + 1) (hourInS c i)
theorem hrsT_1 {k : Nat} (h : k < 5) : ∀ (n i : Nat) (c : xCo), (hrsT n i c).1 k = c.1 k
  | 0, _, _ => rfl
  | n + 1, i, c => by
    show (hrsT n (i + 1) (hourInS c i)).1 k = c.1 k
    rw [hrsT_1 h n, hourInS_1 h]
def hourS (c : xCo) : xCo := hrsT (c.1 2).toNatClampNeg 0 (cS c 0 (c.1 0 + 1))
def hoursS : Nat → xCo → xCo
  | 0, c => c
  | n + 1, c => hoursS n (hourS c)
theorem hourS_1 {c : xCo} {k : Nat} (h : k < 5) (h0 : k ≠ 0) : (hourS c).1 k = c.1 k := by
  unfold hourS
  rw [hrsT_1 h]
  exact upd_o h0
def passS (c : xCo) (x : Int32) : Int32 × xCo := if x < 1 then (-3, c) else if x ≤ 48 then ((hoursS x.toNatClampNeg c).1 9 - c.1 9, hoursS x.toNatClampNeg c) else (-3, c)
set_option maxRecDepth 100000 in
set_option maxHeartbeats 4000000 in
theorem lp_X5_hrsT {E : xE} {Po : xPo} {w0 w : xW} {b N h : Nat} {x y : Int32} (hN : N ≤ 5) (goal : xCo → Prop) (kx : ∀ (c : xCo) (i : Nat), goal c → WF M_X5_letHoursGo E Po w0 64 [some (.ref b), some (.int x), some (.int y), some (.int (nI h)), some (.int (nI i))] [] (sto E w b c) 0 0) (n : Nat) : ∀ (i : Nat) (c : xCo) (hi : i ≤ N) (hc : c.1 2 = nI N) (hp : goal (hrsT (N - i) i c)) (hn : N - i < n), WF M_X5_letHoursGo E Po w0 39 [some (.ref b), some (.int x), some (.int y), some (.int (nI h)), some (.int (nI i))] [] (sto E w b c) 0 0 := by
  induction n with
  | zero => intro i c hi hc hp hn; exact absurd hn (Nat.not_lt_zero _)
  | succ n ih =>
    intro i c hi hc hp hn
    refine r_iload (q := 41) dX5_letHoursGo_39 rfl rfl ?_
    refine r_aload_n (q := 42) dX5_letHoursGo_41 rfl rfl rfl ?_
    refine r_getfield (q := 45) dX5_letHoursGo_42 f_X5_letHoursGo_38 sto_g0 rfl rfl ?_
    rw [hc]
    refine r_icmp_ge (q := 64) (q2 := 48) dX5_letHoursGo_45 (by decide) rfl (fun h45 => ?_) (fun h45 => ?_)
    · have hi8 : N ≤ i := (nI_leI (by omega) (by omega)).mp h45
      rw [show N - i = 0 by omega] at hp
      exact kx c i hp
    · have hi8 : i < N := Nat.not_le.mp (fun z => h45 ((nI_leI (by omega) (by omega)).mpr z))
      obtain ⟨d, ed⟩ : ∃ d, N - i = d + 1 := ⟨N - i - 1, by omega⟩
      rw [ed] at hp
      have hok : okU c (nI i) := ⟨nI_pos (by omega), by rw [hc]; exact nI_ge hi8 (by omega), nI_ge (a := i) (b := 5) (by omega) (by omega)⟩
      refine r_aload_n (q := 49) dX5_letHoursGo_48 rfl rfl rfl ?_
      refine r_aload_n (q := 50) dX5_letHoursGo_49 rfl rfl rfl ?_
      refine r_iload (q := 52) dX5_letHoursGo_50 rfl rfl ?_
      refine r_callV (q := 55) (ci := 7) (As := [_]) dX5_letHoursGo_52 s_X5_letHoursGo_125 sto_g0 rfl rfl rfl (Nat.le_of_ble_eq_true rfl) rfl rfl rfl (Nat.le_of_ble_eq_true rfl) (Nat.le_of_ble_eq_true rfl) ⟨(Nat.le_of_ble_eq_true rfl), (Nat.le_of_ble_eq_true rfl)⟩ rfl ?_
      refine ct_X5_tentAt_in (show i < 5 by omega) hok ?_
      refine r_callV (q := 58) (ci := 7) (As := [_]) dX5_letHoursGo_55 s_X5_letHoursGo_165 sto_g0 rfl rfl rfl (Nat.le_of_ble_eq_true rfl) rfl rfl rfl (Nat.le_of_ble_eq_true rfl) (Nat.le_of_ble_eq_true rfl) ⟨(Nat.le_of_ble_eq_true rfl), (Nat.le_of_ble_eq_true rfl)⟩ rfl ?_
      refine ct_X5_letHourGoIn (show i < 5 by omega) ?_
      refine r_iinc (q := 61) dX5_letHoursGo_58 rfl (Nat.le_of_ble_eq_true rfl) (xone_of rfl) rfl ?_
      rw [show nI i + Int32.ofInt 1 = nI (i + 1) from nI_1 i]
      refine r_goto (q := 39) dX5_letHoursGo_61 (by decide) ?_
      exact ih (i + 1) (hourInS c i) (by omega) ((hourInS_1 (by decide)).trans hc) (by rw [show N - (i + 1) = d by omega]; exact hp) (by omega)
