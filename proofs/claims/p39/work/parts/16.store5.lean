/-! ===== 16.store5: hours, sums, the best (rows laid by wip/p39/gen/store5.py) ===== -/
theorem WF.drop {M : xM} {E : xE} {Po : xPo} {w0 w : xW} {pc : Nat} {L : List (Option Value)} {st : List Value} {k n : Nat} (i : Nat) (h : WF M E Po w0 pc (L.set i none) st w k n) : WF M E Po w0 pc L st w k n := by
  refine WF.weakL h (fun j v hj => ?_)
  by_cases hij : j = i
  · subst hij
    by_cases hl : j < L.length
    · rw [List.getElem?_set_self hl] at hj
      exact absurd (Option.some.inj hj) (fun z => nomatch z)
    · have := (List.getElem?_eq_some_iff.mp hj).1
      simp at this
      omega
  · rwa [List.getElem?_set_ne (Ne.symm hij)] at hj
theorem ixR {x : Int32} {m : Nat} (hm : m < 1000) (h0 : ¬ x < 1) (h1 : x ≤ nI m) : ∃ k, 1 ≤ k ∧ k ≤ m ∧ x = nI k := by
  have a0 := Int32.le_iff_toInt_le.mp (Int32.not_lt.mp h0)
  have a1 := Int32.le_iff_toInt_le.mp h1
  rw [nI_toInt (by omega)] at a1
  rw [show (1 : Int32).toInt = 1 from rfl] at a0
  refine ⟨x.toInt.toNat, by omega, by omega, ?_⟩
  refine Int32.toInt_inj.mp ?_
  rw [nI_toInt (by omega)]
  omega
def sumS (f : Nat → Int32) : Nat → Int32
  | 0 => 0
  | n + 1 => sumS f n + f n
set_option maxRecDepth 100000 in
set_option maxHeartbeats 4000000 in
theorem lp_X5_hours {E : xE} {Po : xPo} {w0 w : xW} {b N H : Nat} {y : Int32} (hN : N ≤ 5) (hH : H ≤ 48) (n : Nat) : ∀ (h : Nat) (c : xCo) (hh : h ≤ H) (hc : c.1 2 = nI N) (hp : Po (.inl (some (.int ((hoursS (H - h) c).1 9 - y)))) (sto E w b (hoursS (H - h) c))) (hn : H - h < n), WF M_X5_letHoursGo E Po w0 21 [some (.ref b), some (.int (nI H)), some (.int y), some (.int (nI h)), none] [] (sto E w b c) 0 0 := by
  induction n with
  | zero => intro h c hh hc hp hn; exact absurd hn (Nat.not_lt_zero _)
  | succ n ih =>
    intro h c hh hc hp hn
    refine r_iload_n (q := 22) dX5_letHoursGo_21 rfl rfl rfl ?_
    refine r_iload_n (q := 23) dX5_letHoursGo_22 rfl rfl rfl ?_
    refine r_icmp_ge (q := 70) (q2 := 26) dX5_letHoursGo_23 (by decide) rfl (fun h23 => ?_) (fun h23 => ?_)
    · have hi8 : H ≤ h := (nI_leI (by omega) (by omega)).mp h23
      rw [show H - h = 0 by omega] at hp
      refine r_aload_n (q := 71) dX5_letHoursGo_70 rfl rfl rfl ?_
      refine r_getfield (q := 74) dX5_letHoursGo_71 f_X5_letHoursGo_56 sto_g0 rfl rfl ?_
      refine r_iload_n (q := 75) dX5_letHoursGo_74 rfl rfl rfl ?_
      refine r_isub (q := 76) dX5_letHoursGo_75 rfl ?_
      refine r_iret dX5_letHoursGo_76 rfl (Nat.le_of_ble_eq_true rfl) (Nat.le_of_ble_eq_true rfl) ?_
      exact hp
    · have hi8 : h < H := Nat.not_le.mp (fun z => h23 ((nI_leI (by omega) (by omega)).mpr z))
      obtain ⟨d, ed⟩ : ∃ d, H - h = d + 1 := ⟨H - h - 1, by omega⟩
      rw [ed] at hp
      refine r_aload_n (q := 27) dX5_letHoursGo_26 rfl rfl rfl ?_
      refine r_dup (q := 28) dX5_letHoursGo_27 rfl rfl ?_
      refine r_getfield (q := 31) dX5_letHoursGo_28 f_X5_letHoursGo_44 sto_g0 rfl rfl ?_
      refine r_iconst (q := 32) (v := 1) dX5_letHoursGo_31 rfl rfl ?_
      refine r_iadd (q := 33) dX5_letHoursGo_32 rfl ?_
      refine r_putfield (q := 36) dX5_letHoursGo_33 f_X5_letHoursGo_44 sto_g0 rfl rfl (Nat.le_of_ble_eq_true rfl) rfl ?_
      refine WF.cw (sto_p0 (k := 0) (by decide)) ?_
      refine r_iconst (q := 37) (v := 0) dX5_letHoursGo_36 rfl rfl ?_
      refine r_istore (q := 39) dX5_letHoursGo_37 (Nat.le_of_ble_eq_true rfl) (xone_of rfl) rfl ?_
      refine lp_X5_hrsT hN (fun c2 => c2 = hourS c) (fun c2 i2 e9 => ?_) (N + 1) 0 (cS c 0 (c.1 0 + 1)) (Nat.zero_le _) (show (cS c 0 (c.1 0 + 1)).1 2 = nI N from hc) (by show hrsT (N - 0) 0 _ = hourS c; unfold hourS; rw [hc, nI_cl (by omega)]; rfl) (by omega)
      subst e9
      refine r_iinc (q := 67) dX5_letHoursGo_64 rfl (Nat.le_of_ble_eq_true rfl) (xone_of rfl) rfl ?_
      rw [show nI h + Int32.ofInt 1 = nI (h + 1) from nI_1 h]
      refine r_goto (q := 21) dX5_letHoursGo_67 (by decide) ?_
      refine WF.drop 4 ?_
      exact ih (h + 1) (hourS c) (by omega) ((hourS_1 (by decide) (by decide)).trans hc) (by rw [show H - (h + 1) = d by omega]; exact hp) (by omega)
set_option maxRecDepth 100000 in
set_option maxHeartbeats 4000000 in
theorem ct_X5_letHoursGo {E : xE} {Po : xPo} {w : xW} {b : Nat} {c : xCo} {x : Int32} (hc : inC c) (hp : Po (.inl (some (.int (passS c x).1))) (sto E w b (passS c x).2)) : Ct M_X5_letHoursGo E [.ref b, .int x] (sto E w b c) Po := by
  refine Ct.of (ws2 := xAll) (L := [some (.ref b), some (.int x), none, none, none]) (by decide +kernel) rfl rfl (List.forall_mem_cons.mpr ⟨rfl, List.forall_mem_cons.mpr ⟨rfl, fun _ h => absurd h List.not_mem_nil⟩⟩) (Nat.le_of_ble_eq_true rfl) rfl ?_
  unfold passS at hp
  refine r_iload_n (q := 1) dX5_letHoursGo_0 rfl rfl rfl ?_
  refine r_iconst (q := 2) (v := 1) dX5_letHoursGo_1 rfl rfl ?_
  refine r_icmp_lt (q := 11) (q2 := 5) dX5_letHoursGo_2 (by decide) rfl (fun h2 => ?_) (fun h2 => ?_)
  · rw [if_pos h2] at hp
    refine r_bipush (q := 13) (v := (-3)) dX5_letHoursGo_11 (by decide) rfl ?_
    refine r_iret dX5_letHoursGo_13 rfl (Nat.le_of_ble_eq_true rfl) (Nat.le_of_ble_eq_true rfl) ?_
    exact hp
  · rw [if_neg h2] at hp
    refine r_iload_n (q := 6) dX5_letHoursGo_5 rfl rfl rfl ?_
    refine r_bipush (q := 8) (v := 48) dX5_letHoursGo_6 (by decide) rfl ?_
    refine r_icmp_le (q := 14) (q2 := 11) dX5_letHoursGo_8 (by decide) rfl (fun h8 => ?_) (fun h8 => ?_)
    · rw [if_pos h8] at hp
      refine r_aload_n (q := 15) dX5_letHoursGo_14 rfl rfl rfl ?_
      refine r_getfield (q := 18) dX5_letHoursGo_15 f_X5_letHoursGo_56 sto_g0 rfl rfl ?_
      refine r_istore_n (q := 19) dX5_letHoursGo_18 rfl (Nat.le_of_ble_eq_true rfl) (xone_of rfl) rfl ?_
      refine r_iconst (q := 20) (v := 0) dX5_letHoursGo_19 rfl rfl ?_
      refine r_istore_n (q := 21) dX5_letHoursGo_20 rfl (Nat.le_of_ble_eq_true rfl) (xone_of rfl) rfl ?_
      obtain ⟨H, hH1, hH, rfl⟩ := ixR (m := 48) (by decide) h2 h8
      obtain ⟨N, hN, eN⟩ := hc.2.1
      rw [nI_cl (by omega)] at hp
      exact lp_X5_hours hN hH (H + 1) 0 c (Nat.zero_le _) eN hp (by omega)
    · rw [if_neg h8] at hp
      refine r_bipush (q := 13) (v := (-3)) dX5_letHoursGo_11 (by decide) rfl ?_
      refine r_iret dX5_letHoursGo_13 rfl (Nat.le_of_ble_eq_true rfl) (Nat.le_of_ble_eq_true rfl) ?_
      exact hp
set_option maxRecDepth 100000 in
set_option maxHeartbeats 4000000 in
theorem lp_X5_gasInAll {E : xE} {Po : xPo} {w0 w : xW} {b N : Nat} {c : xCo} (hN : N ≤ 4) (hc : c.1 3 = nI N) (n : Nat) : ∀ (i : Nat) (hi : i ≤ N) (hp : Po (.inl (some (.int (sumS (fun k => c.2.2.2 k 0) N)))) (sto E w b c)) (hn : N - i < n), WF M_X5_gasInAll E Po w0 4 [some (.ref b), some (.int (sumS (fun k => c.2.2.2 k 0) i)), some (.int (nI i)), none] [] (sto E w b c) 0 0 := by
  induction n with
  | zero => intro i hi hp hn; exact absurd hn (Nat.not_lt_zero _)
  | succ n ih =>
    intro i hi hp hn
    refine r_iload_n (q := 5) dX5_gasInAll_4 rfl rfl rfl ?_
    refine r_aload_n (q := 6) dX5_gasInAll_5 rfl rfl rfl ?_
    refine r_getfield (q := 9) dX5_gasInAll_6 f_X5_gasInAll_41 sto_g0 rfl rfl ?_
    rw [hc]
    refine r_icmp_ge (q := 39) (q2 := 12) dX5_gasInAll_9 (by decide) rfl (fun h9 => ?_) (fun h9 => ?_)
    · have hi8 : N ≤ i := (nI_leI (by omega) (by omega)).mp h9
      obtain rfl : i = N := by omega
      refine r_iload_n (q := 40) dX5_gasInAll_39 rfl rfl rfl ?_
      refine r_iret dX5_gasInAll_40 rfl (Nat.le_of_ble_eq_true rfl) (Nat.le_of_ble_eq_true rfl) ?_
      exact hp
    · have hi8 : i < N := Nat.not_le.mp (fun z => h9 ((nI_leI (by omega) (by omega)).mpr z))
      have hok : okG c (nI i) := ⟨nI_pos (by omega), by rw [hc]; exact nI_ge hi8 (by omega), nI_ge (a := i) (b := 4) (by omega) (by omega)⟩
      refine r_aload_n (q := 13) dX5_gasInAll_12 rfl rfl rfl ?_
      refine r_iload_n (q := 14) dX5_gasInAll_13 rfl rfl rfl ?_
      refine r_callV (q := 17) (ci := 7) (As := [_]) dX5_gasInAll_14 s_X5_gasInAll_149 sto_g0 rfl rfl rfl (Nat.le_of_ble_eq_true rfl) rfl rfl rfl (Nat.le_of_ble_eq_true rfl) (Nat.le_of_ble_eq_true rfl) ⟨(Nat.le_of_ble_eq_true rfl), (Nat.le_of_ble_eq_true rfl)⟩ rfl ?_
      refine ct_X5_heaterAt_in (show i < 4 by omega) hok ?_
      refine r_astore_n (q := 18) dX5_gasInAll_17 rfl (Nat.le_of_ble_eq_true rfl) (xone_of rfl) rfl ?_
      refine r_iload_n (q := 19) dX5_gasInAll_18 rfl rfl rfl ?_
      refine r_aload_n (q := 20) dX5_gasInAll_19 rfl rfl rfl ?_
      refine r_ifnonnull (q := 27) dX5_gasInAll_20 (by decide) ?_
      refine r_aload_n (q := 28) dX5_gasInAll_27 rfl rfl rfl ?_
      refine r_getfield (q := 31) dX5_gasInAll_28 f_X5_gasInAll_157 (sto_gG (show i < 4 by omega)) (by rfl) rfl ?_
      refine r_iadd (q := 32) dX5_gasInAll_31 rfl ?_
      refine r_istore_n (q := 33) dX5_gasInAll_32 rfl (Nat.le_of_ble_eq_true rfl) (xone_of rfl) rfl ?_
      refine r_iinc (q := 36) dX5_gasInAll_33 rfl (Nat.le_of_ble_eq_true rfl) (xone_of rfl) rfl ?_
      rw [show nI i + Int32.ofInt 1 = nI (i + 1) from nI_1 i]
      refine WF.drop 3 ?_
      refine r_goto (q := 4) dX5_gasInAll_36 (by decide) ?_
      exact ih (i + 1) (by omega) hp (by omega)
set_option maxRecDepth 100000 in
set_option maxHeartbeats 4000000 in
theorem lp_X5_waitingInAll {E : xE} {Po : xPo} {w0 w : xW} {b N : Nat} {c : xCo} (hN : N ≤ 5) (hc : c.1 2 = nI N) (n : Nat) : ∀ (i : Nat) (hi : i ≤ N) (hp : Po (.inl (some (.int (sumS (fun k => c.2.2.1 k 4) N)))) (sto E w b c)) (hn : N - i < n), WF M_X5_waitingInAll E Po w0 4 [some (.ref b), some (.int (sumS (fun k => c.2.2.1 k 4) i)), some (.int (nI i)), none] [] (sto E w b c) 0 0 := by
  induction n with
  | zero => intro i hi hp hn; exact absurd hn (Nat.not_lt_zero _)
  | succ n ih =>
    intro i hi hp hn
    refine r_iload_n (q := 5) dX5_waitingInAll_4 rfl rfl rfl ?_
    refine r_aload_n (q := 6) dX5_waitingInAll_5 rfl rfl rfl ?_
    refine r_getfield (q := 9) dX5_waitingInAll_6 f_X5_waitingInAll_38 sto_g0 rfl rfl ?_
    rw [hc]
    refine r_icmp_ge (q := 39) (q2 := 12) dX5_waitingInAll_9 (by decide) rfl (fun h9 => ?_) (fun h9 => ?_)
    · have hi8 : N ≤ i := (nI_leI (by omega) (by omega)).mp h9
      obtain rfl : i = N := by omega
      refine r_iload_n (q := 40) dX5_waitingInAll_39 rfl rfl rfl ?_
      refine r_iret dX5_waitingInAll_40 rfl (Nat.le_of_ble_eq_true rfl) (Nat.le_of_ble_eq_true rfl) ?_
      exact hp
    · have hi8 : i < N := Nat.not_le.mp (fun z => h9 ((nI_leI (by omega) (by omega)).mpr z))
      have hok : okU c (nI i) := ⟨nI_pos (by omega), by rw [hc]; exact nI_ge hi8 (by omega), nI_ge (a := i) (b := 5) (by omega) (by omega)⟩
      refine r_aload_n (q := 13) dX5_waitingInAll_12 rfl rfl rfl ?_
      refine r_iload_n (q := 14) dX5_waitingInAll_13 rfl rfl rfl ?_
      refine r_callV (q := 17) (ci := 7) (As := [_]) dX5_waitingInAll_14 s_X5_waitingInAll_125 sto_g0 rfl rfl rfl (Nat.le_of_ble_eq_true rfl) rfl rfl rfl (Nat.le_of_ble_eq_true rfl) (Nat.le_of_ble_eq_true rfl) ⟨(Nat.le_of_ble_eq_true rfl), (Nat.le_of_ble_eq_true rfl)⟩ rfl ?_
      refine ct_X5_tentAt_in (show i < 5 by omega) hok ?_
      refine r_astore_n (q := 18) dX5_waitingInAll_17 rfl (Nat.le_of_ble_eq_true rfl) (xone_of rfl) rfl ?_
      refine r_iload_n (q := 19) dX5_waitingInAll_18 rfl rfl rfl ?_
      refine r_aload_n (q := 20) dX5_waitingInAll_19 rfl rfl rfl ?_
      refine r_ifnonnull (q := 27) dX5_waitingInAll_20 (by decide) ?_
      refine r_aload_n (q := 28) dX5_waitingInAll_27 rfl rfl rfl ?_
      refine r_getfield (q := 31) dX5_waitingInAll_28 f_X5_waitingInAll_139 (sto_gU (show i < 5 by omega)) (by rfl) rfl ?_
      refine r_iadd (q := 32) dX5_waitingInAll_31 rfl ?_
      refine r_istore_n (q := 33) dX5_waitingInAll_32 rfl (Nat.le_of_ble_eq_true rfl) (xone_of rfl) rfl ?_
      refine r_iinc (q := 36) dX5_waitingInAll_33 rfl (Nat.le_of_ble_eq_true rfl) (xone_of rfl) rfl ?_
      rw [show nI i + Int32.ofInt 1 = nI (i + 1) from nI_1 i]
      refine WF.drop 3 ?_
      refine r_goto (q := 4) dX5_waitingInAll_36 (by decide) ?_
      exact ih (i + 1) (by omega) hp (by omega)
set_option maxRecDepth 100000 in
set_option maxHeartbeats 4000000 in
theorem ct_X5_gasInAll {E : xE} {Po : xPo} {w : xW} {b N : Nat} {c : xCo} (hN : N ≤ 4) (hc : c.1 3 = nI N) (hp : Po (.inl (some (.int (sumS (fun k => c.2.2.2 k 0) N)))) (sto E w b c)) : Ct M_X5_gasInAll E [.ref b] (sto E w b c) Po := by
  refine Ct.of (ws2 := xAll) (L := [some (.ref b), none, none, none]) (by decide +kernel) rfl rfl (List.forall_mem_cons.mpr ⟨rfl, fun _ h => absurd h List.not_mem_nil⟩) (Nat.le_of_ble_eq_true rfl) rfl ?_
  refine r_iconst (q := 1) (v := 0) dX5_gasInAll_0 rfl rfl ?_
  refine r_istore_n (q := 2) dX5_gasInAll_1 rfl (Nat.le_of_ble_eq_true rfl) (xone_of rfl) rfl ?_
  refine r_iconst (q := 3) (v := 0) dX5_gasInAll_2 rfl rfl ?_
  refine r_istore_n (q := 4) dX5_gasInAll_3 rfl (Nat.le_of_ble_eq_true rfl) (xone_of rfl) rfl ?_
  exact lp_X5_gasInAll hN hc (N + 1) 0 (Nat.zero_le _) hp (by omega)
set_option maxRecDepth 100000 in
set_option maxHeartbeats 4000000 in
theorem ct_X5_waitingInAll {E : xE} {Po : xPo} {w : xW} {b N : Nat} {c : xCo} (hN : N ≤ 5) (hc : c.1 2 = nI N) (hp : Po (.inl (some (.int (sumS (fun k => c.2.2.1 k 4) N)))) (sto E w b c)) : Ct M_X5_waitingInAll E [.ref b] (sto E w b c) Po := by
  refine Ct.of (ws2 := xAll) (L := [some (.ref b), none, none, none]) (by decide +kernel) rfl rfl (List.forall_mem_cons.mpr ⟨rfl, fun _ h => absurd h List.not_mem_nil⟩) (Nat.le_of_ble_eq_true rfl) rfl ?_
  refine r_iconst (q := 1) (v := 0) dX5_waitingInAll_0 rfl rfl ?_
  refine r_istore_n (q := 2) dX5_waitingInAll_1 rfl (Nat.le_of_ble_eq_true rfl) (xone_of rfl) rfl ?_
  refine r_iconst (q := 3) (v := 0) dX5_waitingInAll_2 rfl rfl ?_
  refine r_istore_n (q := 4) dX5_waitingInAll_3 rfl (Nat.le_of_ble_eq_true rfl) (xone_of rfl) rfl ?_
  exact lp_X5_waitingInAll hN hc (N + 1) 0 (Nat.zero_le _) hp (by omega)
set_option maxRecDepth 100000 in
set_option maxHeartbeats 4000000 in
theorem lp_X5_toldOfTubs {E : xE} {Po : xPo} {w0 w : xW} {b N : Nat} {c : xCo} {x : Int32} (hN : N ≤ 8) (hc : c.1 1 = nI N) (n : Nat) : ∀ (i : Nat) (a : Int32) (hi : i ≤ N) (ha : a = sumS (fun k => if x = 2 then (if c.2.1 k 1 < 0 then 0 else 1) else if x = 3 then bcS (c.2.1 k 2) else c.2.1 k 3) i) (hp : Po (.inl (some (.int (sumS (fun k => if x = 2 then (if c.2.1 k 1 < 0 then 0 else 1) else if x = 3 then bcS (c.2.1 k 2) else c.2.1 k 3) N)))) (sto E w b c)) (hn : N - i < n), WF M_X5_toldOfTubs E Po w0 4 [some (.ref b), some (.int x), some (.int a), some (.int (nI i)), none] [] (sto E w b c) 0 0 := by
  induction n with
  | zero => intro i a hi ha hp hn; exact absurd hn (Nat.not_lt_zero _)
  | succ n ih =>
    intro i a hi ha hp hn
    refine r_iload_n (q := 5) dX5_toldOfTubs_4 rfl rfl rfl ?_
    refine r_aload_n (q := 6) dX5_toldOfTubs_5 rfl rfl rfl ?_
    refine r_getfield (q := 9) dX5_toldOfTubs_6 f_X5_toldOfTubs_34 sto_g0 rfl rfl ?_
    rw [hc]
    refine r_icmp_ge (q := 78) (q2 := 12) dX5_toldOfTubs_9 (by decide) rfl (fun h9 => ?_) (fun h9 => ?_)
    · have hi8 : N ≤ i := (nI_leI (by omega) (by omega)).mp h9
      obtain rfl : i = N := by omega
      rw [← ha] at hp
      refine r_iload_n (q := 79) dX5_toldOfTubs_78 rfl rfl rfl ?_
      refine r_iret dX5_toldOfTubs_79 rfl (Nat.le_of_ble_eq_true rfl) (Nat.le_of_ble_eq_true rfl) ?_
      exact hp
    · have hi8 : i < N := Nat.not_le.mp (fun z => h9 ((nI_leI (by omega) (by omega)).mpr z))
      have hok : okT c (nI i) := ⟨nI_pos (by omega), by rw [hc]; exact nI_ge hi8 (by omega), nI_ge (a := i) (b := 8) (by omega) (by omega)⟩
      have hj : i < 8 := by omega
      refine r_aload_n (q := 13) dX5_toldOfTubs_12 rfl rfl rfl ?_
      refine r_iload_n (q := 14) dX5_toldOfTubs_13 rfl rfl rfl ?_
      refine r_callV (q := 17) (ci := 7) (As := [_]) dX5_toldOfTubs_14 s_X5_toldOfTubs_92 sto_g0 rfl rfl rfl (Nat.le_of_ble_eq_true rfl) rfl rfl rfl (Nat.le_of_ble_eq_true rfl) (Nat.le_of_ble_eq_true rfl) ⟨(Nat.le_of_ble_eq_true rfl), (Nat.le_of_ble_eq_true rfl)⟩ rfl ?_
      refine ct_X5_tubAt_in hj hok ?_
      refine r_astore (q := 19) dX5_toldOfTubs_17 (Nat.le_of_ble_eq_true rfl) (xone_of rfl) rfl ?_
      refine r_aload (q := 21) dX5_toldOfTubs_19 rfl rfl ?_
      refine r_ifnonnull (q := 27) dX5_toldOfTubs_21 (by decide) ?_
      refine r_iload_n (q := 28) dX5_toldOfTubs_27 rfl rfl rfl ?_
      refine r_iconst (q := 29) (v := 2) dX5_toldOfTubs_28 rfl rfl ?_
      refine r_icmp_ne (q := 51) (q2 := 32) dX5_toldOfTubs_29 (by decide) rfl (fun h29 => ?_) (fun h29 => ?_)
      · refine r_iload_n (q := 52) dX5_toldOfTubs_51 rfl rfl rfl ?_
        refine r_iload_n (q := 53) dX5_toldOfTubs_52 rfl rfl rfl ?_
        refine r_iconst (q := 54) (v := 3) dX5_toldOfTubs_53 rfl rfl ?_
        refine r_icmp_ne (q := 65) (q2 := 57) dX5_toldOfTubs_54 (by decide) rfl (fun h54 => ?_) (fun h54 => ?_)
        · refine r_aload (q := 67) dX5_toldOfTubs_65 rfl rfl ?_
          refine r_getfield (q := 70) dX5_toldOfTubs_67 f_X5_toldOfTubs_109 (sto_gT hj) (by rfl) rfl ?_
          refine r_iadd (q := 71) dX5_toldOfTubs_70 rfl ?_
          refine r_istore_n (q := 72) dX5_toldOfTubs_71 rfl (Nat.le_of_ble_eq_true rfl) (xone_of rfl) rfl ?_
          refine r_iinc (q := 75) dX5_toldOfTubs_72 rfl (Nat.le_of_ble_eq_true rfl) (xone_of rfl) rfl ?_
          rw [show nI i + Int32.ofInt 1 = nI (i + 1) from nI_1 i]
          refine WF.drop 4 ?_
          refine r_goto (q := 4) dX5_toldOfTubs_75 (by decide) ?_
          refine ih (i + 1) _ (by omega) (by show _ = sumS _ i + _; rw [ha]; simp [*]) hp (by omega)
        · refine r_aload (q := 59) dX5_toldOfTubs_57 rfl rfl ?_
          refine r_callV (q := 62) (ci := 10) (As := []) dX5_toldOfTubs_59 s_X5_toldOfTubs_102 (sto_gT hj) rfl rfl rfl (Nat.le_of_ble_eq_true rfl) rfl rfl rfl (Nat.le_of_ble_eq_true rfl) (Nat.le_of_ble_eq_true rfl) ⟨(Nat.le_of_ble_eq_true rfl), (Nat.le_of_ble_eq_true rfl)⟩ rfl ?_
          refine ct_X8_tornSeams (sto_gT hj) ?_
          refine r_goto (q := 70) dX5_toldOfTubs_62 (by decide) ?_
          refine r_iadd (q := 71) dX5_toldOfTubs_70 rfl ?_
          refine r_istore_n (q := 72) dX5_toldOfTubs_71 rfl (Nat.le_of_ble_eq_true rfl) (xone_of rfl) rfl ?_
          refine r_iinc (q := 75) dX5_toldOfTubs_72 rfl (Nat.le_of_ble_eq_true rfl) (xone_of rfl) rfl ?_
          rw [show nI i + Int32.ofInt 1 = nI (i + 1) from nI_1 i]
          refine WF.drop 4 ?_
          refine r_goto (q := 4) dX5_toldOfTubs_75 (by decide) ?_
          refine ih (i + 1) _ (by omega) (by show _ = sumS _ i + _; rw [ha]; simp [*]) hp (by omega)
      · refine r_iload_n (q := 33) dX5_toldOfTubs_32 rfl rfl rfl ?_
        refine r_aload (q := 35) dX5_toldOfTubs_33 rfl rfl ?_
        refine r_getfield (q := 38) dX5_toldOfTubs_35 f_X5_toldOfTubs_115 (sto_gT hj) (by rfl) rfl ?_
        refine r_if_lt (q := 45) (q2 := 41) dX5_toldOfTubs_38 (by decide) rfl (fun h38 => ?_) (fun h38 => ?_)
        · refine r_iconst (q := 46) (v := 0) dX5_toldOfTubs_45 rfl rfl ?_
          refine r_iadd (q := 47) dX5_toldOfTubs_46 rfl ?_
          refine r_istore_n (q := 48) dX5_toldOfTubs_47 rfl (Nat.le_of_ble_eq_true rfl) (xone_of rfl) rfl ?_
          refine r_goto (q := 72) dX5_toldOfTubs_48 (by decide) ?_
          refine r_iinc (q := 75) dX5_toldOfTubs_72 rfl (Nat.le_of_ble_eq_true rfl) (xone_of rfl) rfl ?_
          rw [show nI i + Int32.ofInt 1 = nI (i + 1) from nI_1 i]
          refine WF.drop 4 ?_
          refine r_goto (q := 4) dX5_toldOfTubs_75 (by decide) ?_
          refine ih (i + 1) _ (by omega) (by show _ = sumS _ i + _; rw [ha]; simp [*]) hp (by omega)
        · refine r_iconst (q := 42) (v := 1) dX5_toldOfTubs_41 rfl rfl ?_
          refine r_goto (q := 46) dX5_toldOfTubs_42 (by decide) ?_
          refine r_iadd (q := 47) dX5_toldOfTubs_46 rfl ?_
          refine r_istore_n (q := 48) dX5_toldOfTubs_47 rfl (Nat.le_of_ble_eq_true rfl) (xone_of rfl) rfl ?_
          refine r_goto (q := 72) dX5_toldOfTubs_48 (by decide) ?_
          refine r_iinc (q := 75) dX5_toldOfTubs_72 rfl (Nat.le_of_ble_eq_true rfl) (xone_of rfl) rfl ?_
          rw [show nI i + Int32.ofInt 1 = nI (i + 1) from nI_1 i]
          refine WF.drop 4 ?_
          refine r_goto (q := 4) dX5_toldOfTubs_75 (by decide) ?_
          refine ih (i + 1) _ (by omega) (by show _ = sumS _ i + _; rw [ha]; simp [*]) hp (by omega)
set_option maxRecDepth 100000 in
set_option maxHeartbeats 4000000 in
theorem ct_X5_toldOfTubs {E : xE} {Po : xPo} {w : xW} {b N : Nat} {c : xCo} {x : Int32} (hN : N ≤ 8) (hc : c.1 1 = nI N) (hp : Po (.inl (some (.int (sumS (fun k => if x = 2 then (if c.2.1 k 1 < 0 then 0 else 1) else if x = 3 then bcS (c.2.1 k 2) else c.2.1 k 3) N)))) (sto E w b c)) : Ct M_X5_toldOfTubs E [.ref b, .int x] (sto E w b c) Po := by
  refine Ct.of (ws2 := xAll) (L := [some (.ref b), some (.int x), none, none, none]) (by decide +kernel) rfl rfl (List.forall_mem_cons.mpr ⟨rfl, List.forall_mem_cons.mpr ⟨rfl, fun _ h => absurd h List.not_mem_nil⟩⟩) (Nat.le_of_ble_eq_true rfl) rfl ?_
  refine r_iconst (q := 1) (v := 0) dX5_toldOfTubs_0 rfl rfl ?_
  refine r_istore_n (q := 2) dX5_toldOfTubs_1 rfl (Nat.le_of_ble_eq_true rfl) (xone_of rfl) rfl ?_
  refine r_iconst (q := 3) (v := 0) dX5_toldOfTubs_2 rfl rfl ?_
  refine r_istore_n (q := 4) dX5_toldOfTubs_3 rfl (Nat.le_of_ble_eq_true rfl) (xone_of rfl) rfl ?_
  exact lp_X5_toldOfTubs hN hc (N + 1) 0 0 (Nat.zero_le _) rfl hp (by omega)
def stToldS (c : xCo) (x : Int32) : Int32 := if x = 0 then c.1 0 else if x = 1 then c.1 1 else if x = 4 then c.1 2 else if x = 5 then c.1 3 else if x = 6 then sumS (fun k => c.2.2.2 k 0) (c.1 3).toNatClampNeg else if x = 7 then c.1 4 else if x = 8 then c.1 5 else if x = 9 then sumS (fun k => c.2.2.1 k 4) (c.1 2).toNatClampNeg else if x = 10 then c.1 8 else if x = 11 then c.1 9 else if x = 12 then c.1 6 else if x = 13 then c.1 7 else sumS (fun k => if x = 2 then (if c.2.1 k 1 < 0 then 0 else 1) else if x = 3 then bcS (c.2.1 k 2) else c.2.1 k 3) (c.1 1).toNatClampNeg
set_option maxRecDepth 100000 in
set_option maxHeartbeats 4000000 in
theorem ct_X5_told {E : xE} {Po : xPo} {w : xW} {b : Nat} {c : xCo} {x : Int32} (hc : inC c) (hp : Po (.inl (some (.int (stToldS c x)))) (sto E w b c)) : Ct M_X5_told E [.ref b, .int x] (sto E w b c) Po := by
  refine Ct.of (ws2 := xAll) (L := [some (.ref b), some (.int x)]) (by decide +kernel) rfl rfl (List.forall_mem_cons.mpr ⟨rfl, List.forall_mem_cons.mpr ⟨rfl, fun _ h => absurd h List.not_mem_nil⟩⟩) (Nat.le_of_ble_eq_true rfl) rfl ?_
  obtain ⟨⟨N1, hN1, e_1⟩, ⟨N2, hN2, e_2⟩, ⟨N3, hN3, e_3⟩, -⟩ := hc
  refine r_iload_n (q := 1) dX5_told_0 rfl rfl rfl ?_
  by_cases e0 : x = 0
  · subst e0
    refine r_tableIn (off := 71) (q := 72) dX5_told_1 (by decide) (by decide) (by decide) (by decide) ?_
    refine r_aload_n (q := 73) dX5_told_72 rfl rfl rfl ?_
    refine r_getfield (q := 76) dX5_told_73 f_X5_told_44 sto_g0 rfl rfl ?_
    refine r_iret dX5_told_76 rfl (Nat.le_of_ble_eq_true rfl) (Nat.le_of_ble_eq_true rfl) ?_
    simpa [stToldS, e_1, e_2, e_3, nI_cl (show N2 < 2147483648 by omega), nI_cl (show N3 < 2147483648 by omega)] using hp
  by_cases e1 : x = 1
  · subst e1
    refine r_tableIn (off := 76) (q := 77) dX5_told_1 (by decide) (by decide) (by decide) (by decide) ?_
    refine r_aload_n (q := 78) dX5_told_77 rfl rfl rfl ?_
    refine r_getfield (q := 81) dX5_told_78 f_X5_told_34 sto_g0 rfl rfl ?_
    refine r_iret dX5_told_81 rfl (Nat.le_of_ble_eq_true rfl) (Nat.le_of_ble_eq_true rfl) ?_
    simpa [stToldS, e_1, e_2, e_3, nI_cl (show N2 < 2147483648 by omega), nI_cl (show N3 < 2147483648 by omega)] using hp
  by_cases e2 : x = 2
  · subst e2
    refine r_tableIn (off := 131) (q := 132) dX5_told_1 (by decide) (by decide) (by decide) (by decide) ?_
    refine r_aload_n (q := 133) dX5_told_132 rfl rfl rfl ?_
    refine r_iload_n (q := 134) dX5_told_133 rfl rfl rfl ?_
    refine r_callV (q := 137) (ci := 7) (As := [_]) dX5_told_134 s_X5_told_210 sto_g0 rfl rfl rfl (Nat.le_of_ble_eq_true rfl) rfl rfl rfl (Nat.le_of_ble_eq_true rfl) (Nat.le_of_ble_eq_true rfl) ⟨(Nat.le_of_ble_eq_true rfl), (Nat.le_of_ble_eq_true rfl)⟩ rfl ?_
    refine ct_X5_toldOfTubs hN1 e_1 ?_
    refine r_iret dX5_told_137 rfl (Nat.le_of_ble_eq_true rfl) (Nat.le_of_ble_eq_true rfl) ?_
    first
      | (unfold stToldS at hp; rw [if_neg e0, if_neg e1, if_neg e4, if_neg e5, if_neg e6, if_neg e7, if_neg e8, if_neg e9, if_neg e10, if_neg e11, if_neg e12, if_neg e13, e_1, nI_cl (by omega)] at hp; exact hp)
      | (simpa [stToldS, e_1, nI_cl (show N1 < 2147483648 by omega)] using hp)
  by_cases e3 : x = 3
  · subst e3
    refine r_tableIn (off := 131) (q := 132) dX5_told_1 (by decide) (by decide) (by decide) (by decide) ?_
    refine r_aload_n (q := 133) dX5_told_132 rfl rfl rfl ?_
    refine r_iload_n (q := 134) dX5_told_133 rfl rfl rfl ?_
    refine r_callV (q := 137) (ci := 7) (As := [_]) dX5_told_134 s_X5_told_210 sto_g0 rfl rfl rfl (Nat.le_of_ble_eq_true rfl) rfl rfl rfl (Nat.le_of_ble_eq_true rfl) (Nat.le_of_ble_eq_true rfl) ⟨(Nat.le_of_ble_eq_true rfl), (Nat.le_of_ble_eq_true rfl)⟩ rfl ?_
    refine ct_X5_toldOfTubs hN1 e_1 ?_
    refine r_iret dX5_told_137 rfl (Nat.le_of_ble_eq_true rfl) (Nat.le_of_ble_eq_true rfl) ?_
    first
      | (unfold stToldS at hp; rw [if_neg e0, if_neg e1, if_neg e4, if_neg e5, if_neg e6, if_neg e7, if_neg e8, if_neg e9, if_neg e10, if_neg e11, if_neg e12, if_neg e13, e_1, nI_cl (by omega)] at hp; exact hp)
      | (simpa [stToldS, e_1, nI_cl (show N1 < 2147483648 by omega)] using hp)
  by_cases e4 : x = 4
  · subst e4
    refine r_tableIn (off := 81) (q := 82) dX5_told_1 (by decide) (by decide) (by decide) (by decide) ?_
    refine r_aload_n (q := 83) dX5_told_82 rfl rfl rfl ?_
    refine r_getfield (q := 86) dX5_told_83 f_X5_told_38 sto_g0 rfl rfl ?_
    refine r_iret dX5_told_86 rfl (Nat.le_of_ble_eq_true rfl) (Nat.le_of_ble_eq_true rfl) ?_
    simpa [stToldS, e_1, e_2, e_3, nI_cl (show N2 < 2147483648 by omega), nI_cl (show N3 < 2147483648 by omega)] using hp
  by_cases e5 : x = 5
  · subst e5
    refine r_tableIn (off := 86) (q := 87) dX5_told_1 (by decide) (by decide) (by decide) (by decide) ?_
    refine r_aload_n (q := 88) dX5_told_87 rfl rfl rfl ?_
    refine r_getfield (q := 91) dX5_told_88 f_X5_told_41 sto_g0 rfl rfl ?_
    refine r_iret dX5_told_91 rfl (Nat.le_of_ble_eq_true rfl) (Nat.le_of_ble_eq_true rfl) ?_
    simpa [stToldS, e_1, e_2, e_3, nI_cl (show N2 < 2147483648 by omega), nI_cl (show N3 < 2147483648 by omega)] using hp
  by_cases e6 : x = 6
  · subst e6
    refine r_tableIn (off := 91) (q := 92) dX5_told_1 (by decide) (by decide) (by decide) (by decide) ?_
    refine r_aload_n (q := 93) dX5_told_92 rfl rfl rfl ?_
    refine r_callV (q := 96) (ci := 7) (As := []) dX5_told_93 s_X5_told_204 sto_g0 rfl rfl rfl (Nat.le_of_ble_eq_true rfl) rfl rfl rfl (Nat.le_of_ble_eq_true rfl) (Nat.le_of_ble_eq_true rfl) ⟨(Nat.le_of_ble_eq_true rfl), (Nat.le_of_ble_eq_true rfl)⟩ rfl ?_
    refine ct_X5_gasInAll hN3 e_3 ?_
    refine r_iret dX5_told_96 rfl (Nat.le_of_ble_eq_true rfl) (Nat.le_of_ble_eq_true rfl) ?_
    simpa [stToldS, e_1, e_2, e_3, nI_cl (show N2 < 2147483648 by omega), nI_cl (show N3 < 2147483648 by omega)] using hp
  by_cases e7 : x = 7
  · subst e7
    refine r_tableIn (off := 96) (q := 97) dX5_told_1 (by decide) (by decide) (by decide) (by decide) ?_
    refine r_aload_n (q := 98) dX5_told_97 rfl rfl rfl ?_
    refine r_getfield (q := 101) dX5_told_98 f_X5_told_47 sto_g0 rfl rfl ?_
    refine r_iret dX5_told_101 rfl (Nat.le_of_ble_eq_true rfl) (Nat.le_of_ble_eq_true rfl) ?_
    simpa [stToldS, e_1, e_2, e_3, nI_cl (show N2 < 2147483648 by omega), nI_cl (show N3 < 2147483648 by omega)] using hp
  by_cases e8 : x = 8
  · subst e8
    refine r_tableIn (off := 101) (q := 102) dX5_told_1 (by decide) (by decide) (by decide) (by decide) ?_
    refine r_aload_n (q := 103) dX5_told_102 rfl rfl rfl ?_
    refine r_getfield (q := 106) dX5_told_103 f_X5_told_50 sto_g0 rfl rfl ?_
    refine r_iret dX5_told_106 rfl (Nat.le_of_ble_eq_true rfl) (Nat.le_of_ble_eq_true rfl) ?_
    simpa [stToldS, e_1, e_2, e_3, nI_cl (show N2 < 2147483648 by omega), nI_cl (show N3 < 2147483648 by omega)] using hp
  by_cases e9 : x = 9
  · subst e9
    refine r_tableIn (off := 106) (q := 107) dX5_told_1 (by decide) (by decide) (by decide) (by decide) ?_
    refine r_aload_n (q := 108) dX5_told_107 rfl rfl rfl ?_
    refine r_callV (q := 111) (ci := 7) (As := []) dX5_told_108 s_X5_told_207 sto_g0 rfl rfl rfl (Nat.le_of_ble_eq_true rfl) rfl rfl rfl (Nat.le_of_ble_eq_true rfl) (Nat.le_of_ble_eq_true rfl) ⟨(Nat.le_of_ble_eq_true rfl), (Nat.le_of_ble_eq_true rfl)⟩ rfl ?_
    refine ct_X5_waitingInAll hN2 e_2 ?_
    refine r_iret dX5_told_111 rfl (Nat.le_of_ble_eq_true rfl) (Nat.le_of_ble_eq_true rfl) ?_
    simpa [stToldS, e_1, e_2, e_3, nI_cl (show N2 < 2147483648 by omega), nI_cl (show N3 < 2147483648 by omega)] using hp
  by_cases e10 : x = 10
  · subst e10
    refine r_tableIn (off := 111) (q := 112) dX5_told_1 (by decide) (by decide) (by decide) (by decide) ?_
    refine r_aload_n (q := 113) dX5_told_112 rfl rfl rfl ?_
    refine r_getfield (q := 116) dX5_told_113 f_X5_told_53 sto_g0 rfl rfl ?_
    refine r_iret dX5_told_116 rfl (Nat.le_of_ble_eq_true rfl) (Nat.le_of_ble_eq_true rfl) ?_
    simpa [stToldS, e_1, e_2, e_3, nI_cl (show N2 < 2147483648 by omega), nI_cl (show N3 < 2147483648 by omega)] using hp
  by_cases e11 : x = 11
  · subst e11
    refine r_tableIn (off := 116) (q := 117) dX5_told_1 (by decide) (by decide) (by decide) (by decide) ?_
    refine r_aload_n (q := 118) dX5_told_117 rfl rfl rfl ?_
    refine r_getfield (q := 121) dX5_told_118 f_X5_told_56 sto_g0 rfl rfl ?_
    refine r_iret dX5_told_121 rfl (Nat.le_of_ble_eq_true rfl) (Nat.le_of_ble_eq_true rfl) ?_
    simpa [stToldS, e_1, e_2, e_3, nI_cl (show N2 < 2147483648 by omega), nI_cl (show N3 < 2147483648 by omega)] using hp
  by_cases e12 : x = 12
  · subst e12
    refine r_tableIn (off := 121) (q := 122) dX5_told_1 (by decide) (by decide) (by decide) (by decide) ?_
    refine r_aload_n (q := 123) dX5_told_122 rfl rfl rfl ?_
    refine r_getfield (q := 126) dX5_told_123 f_X5_told_59 sto_g0 rfl rfl ?_
    refine r_iret dX5_told_126 rfl (Nat.le_of_ble_eq_true rfl) (Nat.le_of_ble_eq_true rfl) ?_
    simpa [stToldS, e_1, e_2, e_3, nI_cl (show N2 < 2147483648 by omega), nI_cl (show N3 < 2147483648 by omega)] using hp
  by_cases e13 : x = 13
  · subst e13
    refine r_tableIn (off := 126) (q := 127) dX5_told_1 (by decide) (by decide) (by decide) (by decide) ?_
    refine r_aload_n (q := 128) dX5_told_127 rfl rfl rfl ?_
    refine r_getfield (q := 131) dX5_told_128 f_X5_told_62 sto_g0 rfl rfl ?_
    refine r_iret dX5_told_131 rfl (Nat.le_of_ble_eq_true rfl) (Nat.le_of_ble_eq_true rfl) ?_
    simpa [stToldS, e_1, e_2, e_3, nI_cl (show N2 < 2147483648 by omega), nI_cl (show N3 < 2147483648 by omega)] using hp
  refine r_tableOut (q := 132) dX5_told_1 (sw_out 13 (by decide) (fun k hk => by rcases (show k = 0 ∨ k = 1 ∨ k = 2 ∨ k = 3 ∨ k = 4 ∨ k = 5 ∨ k = 6 ∨ k = 7 ∨ k = 8 ∨ k = 9 ∨ k = 10 ∨ k = 11 ∨ k = 12 ∨ k = 13 by omega) with rfl | rfl | rfl | rfl | rfl | rfl | rfl | rfl | rfl | rfl | rfl | rfl | rfl | rfl <;> assumption)) (by decide) ?_
  refine r_aload_n (q := 133) dX5_told_132 rfl rfl rfl ?_
  refine r_iload_n (q := 134) dX5_told_133 rfl rfl rfl ?_
  refine r_callV (q := 137) (ci := 7) (As := [_]) dX5_told_134 s_X5_told_210 sto_g0 rfl rfl rfl (Nat.le_of_ble_eq_true rfl) rfl rfl rfl (Nat.le_of_ble_eq_true rfl) (Nat.le_of_ble_eq_true rfl) ⟨(Nat.le_of_ble_eq_true rfl), (Nat.le_of_ble_eq_true rfl)⟩ rfl ?_
  refine ct_X5_toldOfTubs hN1 e_1 ?_
  refine r_iret dX5_told_137 rfl (Nat.le_of_ble_eq_true rfl) (Nat.le_of_ble_eq_true rfl) ?_
  first
    | (unfold stToldS at hp; rw [if_neg e0, if_neg e1, if_neg e4, if_neg e5, if_neg e6, if_neg e7, if_neg e8, if_neg e9, if_neg e10, if_neg e11, if_neg e12, if_neg e13, e_1, nI_cl (by omega)] at hp; exact hp)
    | (simpa [stToldS, e_1, nI_cl (show N1 < 2147483648 by omega)] using hp)
