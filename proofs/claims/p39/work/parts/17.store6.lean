/-! ===== 17.store6: who waits, the best, copies (rows laid by wip/p39/gen/store6.py) ===== -/
def awtS (c : xCo) (x : Int32) : Nat → Nat → Int32
  | 0, _ => 0
  | n + 1, j => if awS (c.2.2.1 j) x (c.2.2.1 j 4).toNatClampNeg 0 = 0 then awtS c x n (j + 1) else 1
theorem awS_01 {f : Nat → Int32} {x : Int32} : ∀ (n j : Nat), awS f x n j = 0 ∨ awS f x n j = 1
  | 0, _ => Or.inl rfl
  | n + 1, j => by
    unfold awS
    split
    · exact Or.inr rfl
    · exact awS_01 n (j + 1)
theorem awtS_01 {c : xCo} {x : Int32} : ∀ (n j : Nat), awtS c x n j = 0 ∨ awtS c x n j = 1
  | 0, _ => Or.inl rfl
  | n + 1, j => by
    unfold awtS
    split
    · exact awtS_01 n (j + 1)
    · exact Or.inr rfl
/-- is tub k better than the best so far -/
def btrS (f g : Nat → Int32) : Int32 := if g 0 < f 0 then 1 else if f 0 = g 0 then (if g 6 ≤ f 6 then 0 else 1) else 0
def bsI (o : Option Nat) : Int32 := match o with | none => -1 | some k => nI k
def bsR (b : Nat) (o : Option Nat) : Value := match o with | none => .null | some k => .ref (b + 5 + k)
def bstep (c : xCo) (o : Option Nat) (i : Nat) : Option Nat := if 0 ≤ c.2.1 i 1 then o else (if c.2.1 i 2 = 0 then (match o with | none => some i | some k => if btrS (c.2.1 i) (c.2.1 k) = 0 then some k else some i) else o)
def bestF (c : xCo) : Nat → Option Nat
  | 0 => none
  | n + 1 => bstep c (bestF c n) n
theorem bestF_lt {c : xCo} : ∀ (n k : Nat), bestF c n = some k → k < n
  | 0, k, h => by cases h
  | n + 1, k, h => by
    unfold bestF bstep at h
    have ih := bestF_lt (c := c) n
    split at h
    · have := ih k h; omega
    · split at h
      · split at h
        · cases h; omega
        · rename_i k2 e2
          split at h
          · cases h; have := ih k e2; omega
          · cases h; omega
      · have := ih k h; omega
set_option maxRecDepth 100000 in
set_option maxHeartbeats 4000000 in
theorem lp_X5_awaits {E : xE} {Po : xPo} {w0 w : xW} {b N : Nat} {c : xCo} {x : Int32} (hN : N ≤ 5) (hi0 : inC c) (hc : c.1 2 = nI N) (n : Nat) : ∀ (i : Nat) (hi : i ≤ N) (hp : Po (.inl (some (.int (awtS c x (N - i) i)))) (sto E w b c)) (hn : N - i < n), WF M_X5_awaits E Po w0 2 [some (.ref b), some (.int x), some (.int (nI i)), none] [] (sto E w b c) 0 0 := by
  induction n with
  | zero => intro i hi hp hn; exact absurd hn (Nat.not_lt_zero _)
  | succ n ih =>
    intro i hi hp hn
    refine r_iload_n (q := 3) dX5_awaits_2 rfl rfl rfl ?_
    refine r_aload_n (q := 4) dX5_awaits_3 rfl rfl rfl ?_
    refine r_getfield (q := 7) dX5_awaits_4 f_X5_awaits_38 sto_g0 rfl rfl ?_
    rw [hc]
    refine r_icmp_ge (q := 36) (q2 := 10) dX5_awaits_7 (by decide) rfl (fun h7 => ?_) (fun h7 => ?_)
    · have hi8 : N ≤ i := (nI_leI (by omega) (by omega)).mp h7
      rw [show N - i = 0 by omega] at hp
      refine r_iconst (q := 37) (v := 0) dX5_awaits_36 rfl rfl ?_
      refine r_zret dX5_awaits_37 rfl (by decide) (Nat.le_of_ble_eq_true rfl) (Nat.le_of_ble_eq_true rfl) ?_
      exact hp
    · have hi8 : i < N := Nat.not_le.mp (fun z => h7 ((nI_leI (by omega) (by omega)).mpr z))
      obtain ⟨d, ed⟩ : ∃ d, N - i = d + 1 := ⟨N - i - 1, by omega⟩
      rw [ed] at hp
      unfold awtS at hp
      have hok : okU c (nI i) := ⟨nI_pos (by omega), by rw [hc]; exact nI_ge hi8 (by omega), nI_ge (a := i) (b := 5) (by omega) (by omega)⟩
      have hu : i < 5 := by omega
      obtain ⟨m, hm6, hm⟩ := hi0.2.2.2 i hu
      rw [hm, nI_cl (by omega)] at hp
      refine r_aload_n (q := 11) dX5_awaits_10 rfl rfl rfl ?_
      refine r_iload_n (q := 12) dX5_awaits_11 rfl rfl rfl ?_
      refine r_callV (q := 15) (ci := 7) (As := [_]) dX5_awaits_12 s_X5_awaits_125 sto_g0 rfl rfl rfl (Nat.le_of_ble_eq_true rfl) rfl rfl rfl (Nat.le_of_ble_eq_true rfl) (Nat.le_of_ble_eq_true rfl) ⟨(Nat.le_of_ble_eq_true rfl), (Nat.le_of_ble_eq_true rfl)⟩ rfl ?_
      refine ct_X5_tentAt_in hu hok ?_
      refine r_astore_n (q := 16) dX5_awaits_15 rfl (Nat.le_of_ble_eq_true rfl) (xone_of rfl) rfl ?_
      refine r_aload_n (q := 17) dX5_awaits_16 rfl rfl rfl ?_
      refine r_ifnull (q := 20) dX5_awaits_17 rfl ?_
      refine r_aload_n (q := 21) dX5_awaits_20 rfl rfl rfl ?_
      refine r_iload_n (q := 22) dX5_awaits_21 rfl rfl rfl ?_
      refine r_callV (q := 25) (ci := 8) (As := [_]) dX5_awaits_22 s_X5_awaits_146 (sto_gU hu) rfl rfl rfl (Nat.le_of_ble_eq_true rfl) rfl rfl rfl (Nat.le_of_ble_eq_true rfl) (Nat.le_of_ble_eq_true rfl) ⟨(Nat.le_of_ble_eq_true rfl), (Nat.le_of_ble_eq_true rfl)⟩ rfl ?_
      refine ct_X6_awaits (sto_gU hu) (sto_gV hu) hm (by omega) ?_
      refine r_if_eq (q := 30) (q2 := 28) dX5_awaits_25 (by decide) rfl (fun h25 => ?_) (fun h25 => ?_)
      · rw [if_pos h25] at hp
        refine r_iinc (q := 33) dX5_awaits_30 rfl (Nat.le_of_ble_eq_true rfl) (xone_of rfl) rfl ?_
        rw [show nI i + Int32.ofInt 1 = nI (i + 1) from nI_1 i]
        refine WF.drop 3 ?_
        refine r_goto (q := 2) dX5_awaits_33 (by decide) ?_
        exact ih (i + 1) (by omega) (by rw [show N - (i + 1) = d by omega]; exact hp) (by omega)
      · rw [if_neg h25] at hp
        refine r_iconst (q := 29) (v := 1) dX5_awaits_28 rfl rfl ?_
        refine r_zret dX5_awaits_29 rfl (by decide) (Nat.le_of_ble_eq_true rfl) (Nat.le_of_ble_eq_true rfl) ?_
        exact hp
set_option maxRecDepth 100000 in
set_option maxHeartbeats 4000000 in
theorem ct_X5_awaits {E : xE} {Po : xPo} {w : xW} {b N : Nat} {c : xCo} {x : Int32} (hN : N ≤ 5) (hi0 : inC c) (hc : c.1 2 = nI N) (hp : Po (.inl (some (.int (awtS c x N 0)))) (sto E w b c)) : Ct M_X5_awaits E [.ref b, .int x] (sto E w b c) Po := by
  refine Ct.of (ws2 := xAll) (L := [some (.ref b), some (.int x), none, none]) (by decide +kernel) rfl rfl (List.forall_mem_cons.mpr ⟨rfl, List.forall_mem_cons.mpr ⟨rfl, fun _ h => absurd h List.not_mem_nil⟩⟩) (Nat.le_of_ble_eq_true rfl) rfl ?_
  refine r_iconst (q := 1) (v := 0) dX5_awaits_0 rfl rfl ?_
  refine r_istore_n (q := 2) dX5_awaits_1 rfl (Nat.le_of_ble_eq_true rfl) (xone_of rfl) rfl ?_
  exact lp_X5_awaits hN hi0 hc (N + 1) 0 (Nat.zero_le _) hp (by omega)
set_option maxRecDepth 100000 in
set_option maxHeartbeats 4000000 in
theorem ct_X5_isBetter {E : xE} {Po : xPo} {w : xW} {a b : Nat} {f g : Nat → Int32} (hw : w.1 a = some (tubE f)) (hu : w.1 b = some (tubE g)) (hp : Po (.inl (some (.int (btrS f g)))) w) : Ct M_X5_isBetter E [.ref a, .ref b] w Po := by
  refine Ct.of (ws2 := xAll) (L := [some (.ref a), some (.ref b)]) (by decide +kernel) rfl rfl (List.forall_mem_cons.mpr ⟨rfl, List.forall_mem_cons.mpr ⟨rfl, fun _ h => absurd h List.not_mem_nil⟩⟩) (Nat.le_of_ble_eq_true rfl) rfl ?_
  unfold btrS at hp
  refine r_aload_n (q := 1) dX5_isBetter_0 rfl rfl rfl ?_
  refine r_ifnull (q := 4) dX5_isBetter_1 rfl ?_
  refine r_aload_n (q := 5) dX5_isBetter_4 rfl rfl rfl ?_
  refine r_getfield (q := 8) dX5_isBetter_5 f_X5_isBetter_86 hw rfl rfl ?_
  refine r_aload_n (q := 9) dX5_isBetter_8 rfl rfl rfl ?_
  refine r_getfield (q := 12) dX5_isBetter_9 f_X5_isBetter_86 hu rfl rfl ?_
  refine r_icmp_gt (q := 37) (q2 := 15) dX5_isBetter_12 (by decide) rfl (fun h12 => ?_) (fun h12 => ?_)
  · rw [if_pos h12] at hp
    refine r_iconst (q := 38) (v := 1) dX5_isBetter_37 rfl rfl ?_
    refine r_goto (q := 42) dX5_isBetter_38 (by decide) ?_
    refine r_zret dX5_isBetter_42 rfl (by decide) (Nat.le_of_ble_eq_true rfl) (Nat.le_of_ble_eq_true rfl) ?_
    exact hp
  · rw [if_neg h12] at hp
    refine r_aload_n (q := 16) dX5_isBetter_15 rfl rfl rfl ?_
    refine r_getfield (q := 19) dX5_isBetter_16 f_X5_isBetter_86 hw rfl rfl ?_
    refine r_aload_n (q := 20) dX5_isBetter_19 rfl rfl rfl ?_
    refine r_getfield (q := 23) dX5_isBetter_20 f_X5_isBetter_86 hu rfl rfl ?_
    refine r_icmp_ne (q := 41) (q2 := 26) dX5_isBetter_23 (by decide) rfl (fun h23 => ?_) (fun h23 => ?_)
    · rw [if_neg h23] at hp
      refine r_iconst (q := 42) (v := 0) dX5_isBetter_41 rfl rfl ?_
      refine r_zret dX5_isBetter_42 rfl (by decide) (Nat.le_of_ble_eq_true rfl) (Nat.le_of_ble_eq_true rfl) ?_
      exact hp
    · rw [if_pos h23] at hp
      refine r_aload_n (q := 27) dX5_isBetter_26 rfl rfl rfl ?_
      refine r_getfield (q := 30) dX5_isBetter_27 f_X5_isBetter_122 hw rfl rfl ?_
      refine r_aload_n (q := 31) dX5_isBetter_30 rfl rfl rfl ?_
      refine r_getfield (q := 34) dX5_isBetter_31 f_X5_isBetter_122 hu rfl rfl ?_
      refine r_icmp_ge (q := 41) (q2 := 37) dX5_isBetter_34 (by decide) rfl (fun h34 => ?_) (fun h34 => ?_)
      · rw [if_pos h34] at hp
        refine r_iconst (q := 42) (v := 0) dX5_isBetter_41 rfl rfl ?_
        refine r_zret dX5_isBetter_42 rfl (by decide) (Nat.le_of_ble_eq_true rfl) (Nat.le_of_ble_eq_true rfl) ?_
        exact hp
      · rw [if_neg h34] at hp
        refine r_iconst (q := 38) (v := 1) dX5_isBetter_37 rfl rfl ?_
        refine r_goto (q := 42) dX5_isBetter_38 (by decide) ?_
        refine r_zret dX5_isBetter_42 rfl (by decide) (Nat.le_of_ble_eq_true rfl) (Nat.le_of_ble_eq_true rfl) ?_
        exact hp
set_option maxRecDepth 100000 in
set_option maxHeartbeats 4000000 in
theorem ct_X5_isBetterN {E : xE} {Po : xPo} {w : xW} {a : Nat} (hp : Po (.inl (some (.int 1))) w) : Ct M_X5_isBetter E [.ref a, .null] w Po := by
  refine Ct.of (ws2 := xAll) (L := [some (.ref a), some (.null)]) (by decide +kernel) rfl rfl (List.forall_mem_cons.mpr ⟨rfl, List.forall_mem_cons.mpr ⟨rfl, fun _ h => absurd h List.not_mem_nil⟩⟩) (Nat.le_of_ble_eq_true rfl) rfl ?_
  refine r_aload_nN (q := 1) dX5_isBetter_0 rfl rfl rfl ?_
  refine r_ifnullN (q := 37) dX5_isBetter_1 (by decide) ?_
  refine r_iconst (q := 38) (v := 1) dX5_isBetter_37 rfl rfl ?_
  refine r_goto (q := 42) dX5_isBetter_38 (by decide) ?_
  refine r_zret dX5_isBetter_42 rfl (by decide) (Nat.le_of_ble_eq_true rfl) (Nat.le_of_ble_eq_true rfl) ?_
  exact hp
set_option maxRecDepth 100000 in
set_option maxHeartbeats 4000000 in
theorem lp_X5_bestSet2 {E : xE} {Po : xPo} {w0 w : xW} {b i : Nat} {c : xCo} {o : Option Nat} {k n : Nat} (ih : True → WF M_X5_bestStored E Po w0 6 [some (.ref b), some (.int (bsI (some i))), some (bsR b (some i)), some (.int (nI (i + 1))), none] [] (sto E w b c) k n) : WF M_X5_bestStored E Po w0 51 [some (.ref b), some (.int (bsI o)), some (bsR b o), some (.int (nI i)), some (.ref (b + 5 + i))] [] (sto E w b c) k n := by
  refine r_iload_n (q := 52) dX5_bestStored_51 rfl rfl rfl ?_
  refine r_istore_n (q := 53) dX5_bestStored_52 rfl (Nat.le_of_ble_eq_true rfl) (xone_of (by cases o <;> rfl)) rfl ?_
  refine r_aload (q := 55) dX5_bestStored_53 rfl rfl ?_
  refine r_astore_n (q := 56) dX5_bestStored_55 rfl (Nat.le_of_ble_eq_true rfl) (xone_of (by cases o <;> rfl)) rfl ?_
  refine r_iinc (q := 59) dX5_bestStored_56 rfl (Nat.le_of_ble_eq_true rfl) (xone_of (by cases o <;> rfl)) rfl ?_
  rw [show nI i + Int32.ofInt 1 = nI (i + 1) from nI_1 i]
  refine WF.drop 4 ?_
  refine r_goto (q := 6) dX5_bestStored_59 (by decide) ?_
  exact ih trivial
set_option maxRecDepth 100000 in
set_option maxHeartbeats 4000000 in
theorem lp_X5_bestSet {E : xE} {Po : xPo} {w0 w : xW} {b i : Nat} {c : xCo} {k n : Nat} (hs : bestF c (i + 1) = some i) (ih : some i = bestF c (i + 1) → WF M_X5_bestStored E Po w0 6 [some (.ref b), some (.int (bsI (some i))), some (bsR b (some i)), some (.int (nI (i + 1))), none] [] (sto E w b c) k n) : WF M_X5_bestStored E Po w0 48 [some (.ref b), some (.int (bsI none)), some (bsR b none), some (.int (nI i)), some (.ref (b + 5 + i))] [.int 1] (sto E w b c) k n := by
  refine r_if_eq (q := 56) (q2 := 51) dX5_bestStored_48 (by decide) rfl (fun h9 => absurd h9 (by decide)) (fun _ => ?_)
  refine r_iload_n (q := 52) dX5_bestStored_51 rfl rfl rfl ?_
  refine r_istore_n (q := 53) dX5_bestStored_52 rfl (Nat.le_of_ble_eq_true rfl) (xone_of rfl) rfl ?_
  refine r_aload (q := 55) dX5_bestStored_53 rfl rfl ?_
  refine r_astore_n (q := 56) dX5_bestStored_55 rfl (Nat.le_of_ble_eq_true rfl) (xone_of rfl) rfl ?_
  refine r_iinc (q := 59) dX5_bestStored_56 rfl (Nat.le_of_ble_eq_true rfl) (xone_of rfl) rfl ?_
  rw [show nI i + Int32.ofInt 1 = nI (i + 1) from nI_1 i]
  refine WF.drop 4 ?_
  refine r_goto (q := 6) dX5_bestStored_59 (by decide) ?_
  exact ih hs.symm
set_option maxRecDepth 100000 in
set_option maxHeartbeats 4000000 in
theorem lp_X5_bestStored {E : xE} {Po : xPo} {w0 w : xW} {b N : Nat} {c : xCo} (hN : N ≤ 8) (hc : c.1 1 = nI N) (n : Nat) : ∀ (i : Nat) (o : Option Nat) (hi : i ≤ N) (ho : o = bestF c i) (hp : Po (.inl (some (.int (bsI (bestF c N))))) (sto E w b c)) (hn : N - i < n), WF M_X5_bestStored E Po w0 6 [some (.ref b), some (.int (bsI o)), some (bsR b o), some (.int (nI i)), none] [] (sto E w b c) 0 0 := by
  induction n with
  | zero => intro i o hi ho hp hn; exact absurd hn (Nat.not_lt_zero _)
  | succ n ih =>
    intro i o hi ho hp hn
    refine r_iload_n (q := 7) dX5_bestStored_6 rfl rfl rfl ?_
    refine r_aload_n (q := 8) dX5_bestStored_7 rfl rfl rfl ?_
    refine r_getfield (q := 11) dX5_bestStored_8 f_X5_bestStored_34 sto_g0 rfl rfl ?_
    rw [hc]
    refine r_icmp_ge (q := 62) (q2 := 14) dX5_bestStored_11 (by decide) rfl (fun h11 => ?_) (fun h11 => ?_)
    · have hi8 : N ≤ i := (nI_leI (by omega) (by omega)).mp h11
      obtain rfl : i = N := by omega
      rw [← ho] at hp
      refine r_iload_n (q := 63) dX5_bestStored_62 rfl rfl rfl ?_
      refine r_iret dX5_bestStored_63 rfl (Nat.le_of_ble_eq_true rfl) (Nat.le_of_ble_eq_true rfl) ?_
      exact hp
    · have hi8 : i < N := Nat.not_le.mp (fun z => h11 ((nI_leI (by omega) (by omega)).mpr z))
      have hok : okT c (nI i) := ⟨nI_pos (by omega), by rw [hc]; exact nI_ge hi8 (by omega), nI_ge (a := i) (b := 8) (by omega) (by omega)⟩
      have hj : i < 8 := by omega
      have hs : bestF c (i + 1) = bstep c o i := by rw [ho]; rfl
      unfold bstep at hs
      refine r_aload_n (q := 15) dX5_bestStored_14 rfl rfl rfl ?_
      refine r_iload_n (q := 16) dX5_bestStored_15 rfl rfl rfl ?_
      refine r_callV (q := 19) (ci := 7) (As := [_]) dX5_bestStored_16 s_X5_bestStored_92 sto_g0 rfl rfl rfl (Nat.le_of_ble_eq_true rfl) rfl rfl rfl (Nat.le_of_ble_eq_true rfl) (Nat.le_of_ble_eq_true rfl) ⟨(Nat.le_of_ble_eq_true rfl), (Nat.le_of_ble_eq_true rfl)⟩ rfl ?_
      refine ct_X5_tubAt_in hj hok ?_
      refine r_astore (q := 21) dX5_bestStored_19 (Nat.le_of_ble_eq_true rfl) (xone_of rfl) rfl ?_
      refine r_aload (q := 23) dX5_bestStored_21 rfl rfl ?_
      refine r_ifnull (q := 26) dX5_bestStored_23 rfl ?_
      refine r_aload (q := 28) dX5_bestStored_26 rfl rfl ?_
      refine r_getfield (q := 31) dX5_bestStored_28 f_X5_bestStored_115 (sto_gT hj) (by rfl) rfl ?_
      refine r_if_ge (q := 56) (q2 := 34) dX5_bestStored_31 (by decide) rfl (fun h31 => ?_) (fun h31 => ?_)
      · rw [if_pos h31] at hs
        refine r_iinc (q := 59) dX5_bestStored_56 rfl (Nat.le_of_ble_eq_true rfl) (xone_of (by cases o <;> rfl)) rfl ?_
        rw [show nI i + Int32.ofInt 1 = nI (i + 1) from nI_1 i]
        refine WF.drop 4 ?_
        refine r_goto (q := 6) dX5_bestStored_59 (by decide) ?_
        exact ih (i + 1) o (by omega) hs.symm hp (by omega)
      · rw [if_neg h31] at hs
        refine r_aload (q := 36) dX5_bestStored_34 rfl rfl ?_
        refine r_getfield (q := 39) dX5_bestStored_36 f_X5_bestStored_99 (sto_gT hj) (by rfl) rfl ?_
        refine r_if_ne (q := 56) (q2 := 42) dX5_bestStored_39 (by decide) rfl (fun h39 => ?_) (fun h39 => ?_)
        · rw [if_neg h39] at hs
          refine r_iinc (q := 59) dX5_bestStored_56 rfl (Nat.le_of_ble_eq_true rfl) (xone_of (by cases o <;> rfl)) rfl ?_
          rw [show nI i + Int32.ofInt 1 = nI (i + 1) from nI_1 i]
          refine WF.drop 4 ?_
          refine r_goto (q := 6) dX5_bestStored_59 (by decide) ?_
          exact ih (i + 1) o (by omega) hs.symm hp (by omega)
        · rw [if_pos h39] at hs
          refine r_aload (q := 44) dX5_bestStored_42 rfl rfl ?_
          cases o with
          | none =>
            refine r_aload_nN (q := 45) dX5_bestStored_44 rfl rfl rfl ?_
            refine r_callS (q := 48) (As := [_, _]) dX5_bestStored_45 s_X5_bestStored_118 rfl rfl (Nat.le_of_ble_eq_true rfl) rfl rfl rfl (Nat.le_of_ble_eq_true rfl) (Nat.le_of_ble_eq_true rfl) ⟨(Nat.le_of_ble_eq_true rfl), (Nat.le_of_ble_eq_true rfl)⟩ rfl ?_
            refine ct_X5_isBetterN ?_
            refine lp_X5_bestSet hs (fun z => ?_)
            exact ih (i + 1) (some i) (by omega) z hp (by omega)
          | some k =>
            have hk8 : k < 8 := by have := bestF_lt i k ho.symm; omega
            refine r_aload_n (q := 45) dX5_bestStored_44 rfl rfl rfl ?_
            refine r_callS (q := 48) (As := [_, _]) dX5_bestStored_45 s_X5_bestStored_118 rfl rfl (Nat.le_of_ble_eq_true rfl) rfl rfl rfl (Nat.le_of_ble_eq_true rfl) (Nat.le_of_ble_eq_true rfl) ⟨(Nat.le_of_ble_eq_true rfl), (Nat.le_of_ble_eq_true rfl)⟩ rfl ?_
            refine ct_X5_isBetter (sto_gT hj) (sto_gT hk8) ?_
            refine r_if_eq (q := 56) (q2 := 51) dX5_bestStored_48 (by decide) rfl (fun h48 => ?_) (fun h48 => ?_)
            · replace hs : bestF c (i + 1) = some k := hs.trans (if_pos h48)
              refine r_iinc (q := 59) dX5_bestStored_56 rfl (Nat.le_of_ble_eq_true rfl) (xone_of rfl) rfl ?_
              rw [show nI i + Int32.ofInt 1 = nI (i + 1) from nI_1 i]
              refine r_goto (q := 6) dX5_bestStored_59 (by decide) ?_
              refine WF.drop 4 ?_
              exact ih (i + 1) (some k) (by omega) hs.symm hp (by omega)
            · replace hs : bestF c (i + 1) = some i := hs.trans (if_neg h48)
              refine lp_X5_bestSet2 (fun z => ?_)
              exact ih (i + 1) (some i) (by omega) hs.symm hp (by omega)
set_option maxRecDepth 100000 in
set_option maxHeartbeats 4000000 in
theorem ct_X5_bestStored {E : xE} {Po : xPo} {w : xW} {b N : Nat} {c : xCo} (hN : N ≤ 8) (hc : c.1 1 = nI N) (hp : Po (.inl (some (.int (bsI (bestF c N))))) (sto E w b c)) : Ct M_X5_bestStored E [.ref b] (sto E w b c) Po := by
  refine Ct.of (ws2 := xAll) (L := [some (.ref b), none, none, none, none]) (by decide +kernel) rfl rfl (List.forall_mem_cons.mpr ⟨rfl, fun _ h => absurd h List.not_mem_nil⟩) (Nat.le_of_ble_eq_true rfl) rfl ?_
  refine r_iconst (q := 1) (v := (-1)) dX5_bestStored_0 rfl rfl ?_
  refine r_istore_n (q := 2) dX5_bestStored_1 rfl (Nat.le_of_ble_eq_true rfl) (xone_of rfl) rfl ?_
  refine r_null (q := 3) dX5_bestStored_2 rfl ?_
  refine r_astore_nN (q := 4) dX5_bestStored_3 rfl (Nat.le_of_ble_eq_true rfl) (xone_of rfl) rfl ?_
  refine r_iconst (q := 5) (v := 0) dX5_bestStored_4 rfl rfl ?_
  refine r_istore_n (q := 6) dX5_bestStored_5 rfl (Nat.le_of_ble_eq_true rfl) (xone_of rfl) rfl ?_
  exact lp_X5_bestStored hN hc (N + 1) 0 none (Nat.zero_le _) rfl hp (by omega)
