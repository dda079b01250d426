/-! ===== 26.text2: commands of the input (rows laid by wip/p39/gen/make26.py) ===== -/
def rdS (f : Nat → Int32) (c : Nat → Int32) : Int32 × (Nat → Int32) := if sgS f (c 0) (c 1) < 48 then (-1, c) else if sgS f (c 0) (c 1) ≤ 57 then (sgS f (c 0) (c 1) - 48, upd c 1 (c 1 + 1)) else (-1, c)
def acS (f : Nat → Int32) (c : Nat → Int32) (x : Int32) : Int32 × (Nat → Int32) := if sgS f (c 0) (c 1) = x then (1, upd c 1 (c 1 + 1)) else (0, c)
theorem ct_rd {E : xE} {Po : xPo} {w : xW} {t m : Nat} {c f : Nat → Int32} (hf : w.1 (t + 1) = some (sgnE E f)) (hp : Po (.inl (some (.int (rdS f c).1))) (tx E w t (rdS f c).2 m)) : Ct M_X7_readDigit E [.ref t] (tx E w t c m) Po := by
  refine ct_X7_readDigit hf ?_
  unfold rdS at hp
  split at hp
  · rename_i h; rw [if_pos h]; exact hp
  · rename_i h; rw [if_neg h]
    split at hp
    · rename_i h; rw [if_pos h]; exact hp
    · rename_i h; rw [if_neg h]; exact hp
theorem ct_ac {E : xE} {Po : xPo} {w : xW} {t m : Nat} {c f : Nat → Int32} (hf : w.1 (t + 1) = some (sgnE E f)) {x : Int32} (hp : Po (.inl (some (.int (acS f c x).1))) (tx E w t (acS f c x).2 m)) : Ct M_X7_accepts E [.ref t, .int x] (tx E w t c m) Po := by
  refine ct_X7_accepts hf ?_
  unfold acS at hp
  split at hp
  · rename_i h; rw [if_pos h]; exact hp
  · rename_i h; rw [if_neg h]; exact hp
def digS (m : Nat) : Int32 := ([2, 1, 2, 1, 1, 2, 0, 0, 0] : List Int32).getD m 0
def rc5 (x : Int32) (c : Nat → Int32) (m : Nat) : Int32 × (Nat → Int32) × Nat := (1, upd c 2 (if 0 ≤ x then 10 * c 2 + x else c 2), m)
def rc4 (x : Int32) (c : Nat → Int32) (m : Nat) : Int32 × (Nat → Int32) × Nat := if upd c 3 x 3 < 0 then (0, upd c 3 x, m) else (1, upd c 3 x, m)
def rc3 (f : Nat → Int32) (x : Int32) (c : Nat → Int32) (m : Nat) : Int32 × (Nat → Int32) × Nat := if x = 0 then rc4 (-1) c m else rc4 (rdS f c).1 (rdS f c).2 m
def rc2 (f : Nat → Int32) (c : Nat → Int32) (m : Nat) : Int32 × (Nat → Int32) × Nat := if 0 ≤ c 2 then (if digS m = 1 then (1, c, m) else if digS m = 2 then rc3 f (acS f c 32).1 (acS f c 32).2 m else rc5 (rdS f c).1 (rdS f c).2 m) else (0, c, m)
def rc1 (f : Nat → Int32) (h : Int32) (c : Nat → Int32) (m : Nat) : Int32 × (Nat → Int32) × Nat := if h = 0 then (0, c, m) else rc2 f (upd (rdS f c).2 2 (rdS f c).1) m
/-- a command read: whether it is one, the place and its numbers, which -/
def rcS (f : Nat → Int32) (c : Nat → Int32) (m : Nat) : Int32 × (Nat → Int32) × Nat := rc1 f (rwS f (c 0) (c 1) m).2.1 (upd c 1 (c 1 + (rwS f (c 0) (c 1) m).1)) (rwS f (c 0) (c 1) m).2.2
theorem rwF_m {F : Nat → Nat} : ∀ (n i : Nat) (l h : Int32) (m : Nat), m < 9 → i + n ≤ 9 → (rwF F n i l h m).2.2 < 9 := by
  intro n
  induction n with
  | zero => intro i l h m hm _; exact hm
  | succ n ih =>
    intro i l h m hm hi
    unfold rwF
    split
    · exact ih _ _ _ _ (by omega) (by omega)
    · exact ih _ _ _ _ hm (by omega)
theorem rwS_m {f : Nat → Int32} {n a : Int32} {m : Nat} (hm : m < 9) : (rwS f n a m).2.2 < 9 := rwF_m 9 0 0 0 m hm (by omega)
theorem rc4_m {x : Int32} {c : Nat → Int32} {m : Nat} : (rc4 x c m).2.2 = m := by unfold rc4; split <;> rfl
theorem rc3_m {f : Nat → Int32} {x : Int32} {c : Nat → Int32} {m : Nat} : (rc3 f x c m).2.2 = m := by unfold rc3; split <;> exact rc4_m
theorem rc2_m {f : Nat → Int32} {c : Nat → Int32} {m : Nat} : (rc2 f c m).2.2 = m := by
  unfold rc2
  split
  · split
    · rfl
    · split
      · exact rc3_m
      · rfl
  · rfl
theorem rc1_m {f : Nat → Int32} {h : Int32} {c : Nat → Int32} {m : Nat} : (rc1 f h c m).2.2 = m := by
  unfold rc1
  split
  · rfl
  · exact rc2_m
theorem rcS_m {f : Nat → Int32} {c : Nat → Int32} {m : Nat} (hm : m < 9) : (rcS f c m).2.2 < 9 := by unfold rcS; rw [rc1_m]; exact rwS_m hm
def ff1 (f : Nat → Int32) (K : (Nat → Int32) → Int32 × (Nat → Int32) × Nat) (h : Int32) (c : Nat → Int32) (m : Nat) : Int32 × (Nat → Int32) × Nat := if h = 0 then (c 1, c, m) else if c 1 < c 0 then (if (acS f c 59).1 = 0 then ((acS f c 59).2 1, (acS f c 59).2, m) else K (acS f c 59).2) else (-1, c, m)
def ffF (f : Nat → Int32) : Nat → (Nat → Int32) → Nat → Int32 × (Nat → Int32) × Nat
  | 0, c, m => (c 1, c, m)
  | n + 1, c, m => ff1 f (fun d => ffF f n d (rcS f c m).2.2) (rcS f c m).1 (rcS f c m).2.1 (rcS f c m).2.2
/-- the first fault of the input -/
def ffS (f : Nat → Int32) (c : Nat → Int32) (m : Nat) : Int32 × (Nat → Int32) × Nat := ffF f 60 (upd c 1 0) m
set_option maxRecDepth 100000 in
set_option maxHeartbeats 4000000 in
theorem ct_X7_readsCommand {E : xE} {Po : xPo} {w : xW} {t m : Nat} {c f : Nat → Int32} (hf : w.1 (t + 1) = some (sgnE E f)) (hm : m < 9) (hp : Po (.inl (some (.int (rcS f c m).1))) (tx E w t (rcS f c m).2.1 (rcS f c m).2.2)) : Ct M_X7_readsCommand E [.ref t] (tx E w t c m) Po := by
  refine Ct.of (ws2 := xAll) (L := [some (.ref t), none]) (by decide +kernel) rfl rfl (List.forall_mem_cons.mpr ⟨rfl, fun _ h => absurd h List.not_mem_nil⟩) (Nat.le_of_ble_eq_true rfl) rfl ?_
  refine r_aload_n (q := 1) dX7_readsCommand_0 rfl rfl rfl ?_
  refine r_callV (q := 4) (ci := 9) (As := []) dX7_readsCommand_1 s_X7_readsCommand_43 tx_s rfl rfl rfl (Nat.le_of_ble_eq_true rfl) rfl rfl rfl (Nat.le_of_ble_eq_true rfl) (Nat.le_of_ble_eq_true rfl) ⟨(Nat.le_of_ble_eq_true rfl), (Nat.le_of_ble_eq_true rfl)⟩ rfl ?_
  refine ct_X7_readsWord hf ?_
  show WF _ E Po _ _ _ _ _ _ _
  rw [rcS, rc1] at hp
  refine r_if_ne (q := 9) (q2 := 7) dX7_readsCommand_4 (by decide) rfl (fun h4 => ?_) (fun h4 => ?_)
  · rw [if_neg h4] at hp
    refine r_aload_n (q := 10) dX7_readsCommand_9 rfl rfl rfl ?_
    refine r_aload_n (q := 11) dX7_readsCommand_10 rfl rfl rfl ?_
    refine r_callV (q := 14) (ci := 9) (As := []) dX7_readsCommand_11 s_X7_readsCommand_46 tx_s rfl rfl rfl (Nat.le_of_ble_eq_true rfl) rfl rfl rfl (Nat.le_of_ble_eq_true rfl) (Nat.le_of_ble_eq_true rfl) ⟨(Nat.le_of_ble_eq_true rfl), (Nat.le_of_ble_eq_true rfl)⟩ rfl ?_
    refine ct_rd hf ?_
    show WF _ E Po _ _ _ _ _ _ _
    refine r_putfield (q := 17) dX7_readsCommand_14 f_X7_readsCommand_29 tx_s rfl rfl (Nat.le_of_ble_eq_true rfl) rfl ?_
    refine WF.cw (tx_p2) ?_
    refine r_aload_n (q := 18) dX7_readsCommand_17 rfl rfl rfl ?_
    refine r_getfield (q := 21) dX7_readsCommand_18 f_X7_readsCommand_29 tx_s rfl rfl ?_
    rw [rc2] at hp
    refine r_if_ge (q := 26) (q2 := 24) dX7_readsCommand_21 (by decide) rfl (fun h21 => ?_) (fun h21 => ?_)
    · rw [if_pos h21] at hp
      refine r_aload_n (q := 27) dX7_readsCommand_26 rfl rfl rfl ?_
      refine r_getfield (q := 30) dX7_readsCommand_27 f_X7_readsCommand_26 tx_s rfl rfl ?_
      refine r_getk (v := .int (digS _)) dX7_readsCommand_30 g_X7_readsCommand_50 (k_dig (rwS_m hm)) rfl ?_
      refine r_iconst (q := 34) (v := 1) dX7_readsCommand_33 rfl rfl ?_
      refine r_icmp_ne (q := 39) (q2 := 37) dX7_readsCommand_34 (by decide) rfl (fun h34 => ?_) (fun h34 => ?_)
      · rw [if_neg h34] at hp
        refine r_aload_n (q := 40) dX7_readsCommand_39 rfl rfl rfl ?_
        refine r_getfield (q := 43) dX7_readsCommand_40 f_X7_readsCommand_26 tx_s rfl rfl ?_
        refine r_getk (v := .int (digS _)) dX7_readsCommand_43 g_X7_readsCommand_50 (k_dig (rwS_m hm)) rfl ?_
        refine r_iconst (q := 47) (v := 2) dX7_readsCommand_46 rfl rfl ?_
        refine r_icmp_ne (q := 84) (q2 := 50) dX7_readsCommand_47 (by decide) rfl (fun h47 => ?_) (fun h47 => ?_)
        · rw [if_neg h47] at hp
          refine r_aload_n (q := 85) dX7_readsCommand_84 rfl rfl rfl ?_
          refine r_callV (q := 88) (ci := 9) (As := []) dX7_readsCommand_85 s_X7_readsCommand_46 tx_s rfl rfl rfl (Nat.le_of_ble_eq_true rfl) rfl rfl rfl (Nat.le_of_ble_eq_true rfl) (Nat.le_of_ble_eq_true rfl) ⟨(Nat.le_of_ble_eq_true rfl), (Nat.le_of_ble_eq_true rfl)⟩ rfl ?_
          refine ct_rd hf ?_
          show WF _ E Po _ _ _ _ _ _ _
          refine r_istore_n (q := 89) dX7_readsCommand_88 rfl (Nat.le_of_ble_eq_true rfl) (xone_of rfl) rfl ?_
          refine r_aload_n (q := 90) dX7_readsCommand_89 rfl rfl rfl ?_
          refine r_iload_n (q := 91) dX7_readsCommand_90 rfl rfl rfl ?_
          rw [rc5] at hp
          refine r_if_ge (q := 101) (q2 := 94) dX7_readsCommand_91 (by decide) rfl (fun h91 => ?_) (fun h91 => ?_)
          · rw [if_pos h91] at hp
            refine r_bipush (q := 103) (v := 10) dX7_readsCommand_101 (by decide) rfl ?_
            refine r_aload_n (q := 104) dX7_readsCommand_103 rfl rfl rfl ?_
            refine r_getfield (q := 107) dX7_readsCommand_104 f_X7_readsCommand_29 tx_s rfl rfl ?_
            refine r_imul (q := 108) dX7_readsCommand_107 rfl ?_
            refine r_iload_n (q := 109) dX7_readsCommand_108 rfl rfl rfl ?_
            refine r_iadd (q := 110) dX7_readsCommand_109 rfl ?_
            refine r_putfield (q := 113) dX7_readsCommand_110 f_X7_readsCommand_29 tx_s rfl rfl (Nat.le_of_ble_eq_true rfl) rfl ?_
            refine WF.cw (tx_p2) ?_
            refine r_iconst (q := 114) (v := 1) dX7_readsCommand_113 rfl rfl ?_
            refine r_zret dX7_readsCommand_114 rfl (by decide) (Nat.le_of_ble_eq_true rfl) (Nat.le_of_ble_eq_true rfl) ?_
            exact hp
          · rw [if_neg h91] at hp
            refine r_aload_n (q := 95) dX7_readsCommand_94 rfl rfl rfl ?_
            refine r_getfield (q := 98) dX7_readsCommand_95 f_X7_readsCommand_29 tx_s rfl rfl ?_
            refine r_goto (q := 110) dX7_readsCommand_98 (by decide) ?_
            refine r_putfield (q := 113) dX7_readsCommand_110 f_X7_readsCommand_29 tx_s rfl rfl (Nat.le_of_ble_eq_true rfl) rfl ?_
            refine WF.cw (tx_p2) ?_
            refine r_iconst (q := 114) (v := 1) dX7_readsCommand_113 rfl rfl ?_
            refine r_zret dX7_readsCommand_114 rfl (by decide) (Nat.le_of_ble_eq_true rfl) (Nat.le_of_ble_eq_true rfl) ?_
            exact hp
        · rw [if_pos h47] at hp
          refine r_aload_n (q := 51) dX7_readsCommand_50 rfl rfl rfl ?_
          refine r_aload_n (q := 52) dX7_readsCommand_51 rfl rfl rfl ?_
          refine r_bipush (q := 54) (v := 32) dX7_readsCommand_52 (by decide) rfl ?_
          refine r_callV (q := 57) (ci := 9) (As := [_]) dX7_readsCommand_54 s_X7_readsCommand_39 tx_s rfl rfl rfl (Nat.le_of_ble_eq_true rfl) rfl rfl rfl (Nat.le_of_ble_eq_true rfl) (Nat.le_of_ble_eq_true rfl) ⟨(Nat.le_of_ble_eq_true rfl), (Nat.le_of_ble_eq_true rfl)⟩ rfl ?_
          refine ct_ac hf ?_
          show WF _ E Po _ _ _ _ _ _ _
          rw [rc3] at hp
          refine r_if_eq (q := 67) (q2 := 60) dX7_readsCommand_57 (by decide) rfl (fun h57 => ?_) (fun h57 => ?_)
          · rw [if_pos h57] at hp
            refine r_iconst (q := 68) (v := (-1)) dX7_readsCommand_67 rfl rfl ?_
            refine r_putfield (q := 71) dX7_readsCommand_68 f_X7_readsCommand_32 tx_s rfl rfl (Nat.le_of_ble_eq_true rfl) rfl ?_
            refine WF.cw (tx_p3) ?_
            refine r_aload_n (q := 72) dX7_readsCommand_71 rfl rfl rfl ?_
            refine r_getfield (q := 75) dX7_readsCommand_72 f_X7_readsCommand_32 tx_s rfl rfl ?_
            rw [rc4] at hp
            refine r_if_lt (q := 82) (q2 := 78) dX7_readsCommand_75 (by decide) rfl (fun h75 => ?_) (fun h75 => ?_)
            · rw [if_pos h75] at hp
              refine r_iconst (q := 83) (v := 0) dX7_readsCommand_82 rfl rfl ?_
              refine r_zret dX7_readsCommand_83 rfl (by decide) (Nat.le_of_ble_eq_true rfl) (Nat.le_of_ble_eq_true rfl) ?_
              exact hp
            · rw [if_neg h75] at hp
              refine r_iconst (q := 79) (v := 1) dX7_readsCommand_78 rfl rfl ?_
              refine r_goto (q := 83) dX7_readsCommand_79 (by decide) ?_
              refine r_zret dX7_readsCommand_83 rfl (by decide) (Nat.le_of_ble_eq_true rfl) (Nat.le_of_ble_eq_true rfl) ?_
              exact hp
          · rw [if_neg h57] at hp
            refine r_aload_n (q := 61) dX7_readsCommand_60 rfl rfl rfl ?_
            refine r_callV (q := 64) (ci := 9) (As := []) dX7_readsCommand_61 s_X7_readsCommand_46 tx_s rfl rfl rfl (Nat.le_of_ble_eq_true rfl) rfl rfl rfl (Nat.le_of_ble_eq_true rfl) (Nat.le_of_ble_eq_true rfl) ⟨(Nat.le_of_ble_eq_true rfl), (Nat.le_of_ble_eq_true rfl)⟩ rfl ?_
            refine ct_rd hf ?_
            show WF _ E Po _ _ _ _ _ _ _
            refine r_goto (q := 68) dX7_readsCommand_64 (by decide) ?_
            refine r_putfield (q := 71) dX7_readsCommand_68 f_X7_readsCommand_32 tx_s rfl rfl (Nat.le_of_ble_eq_true rfl) rfl ?_
            refine WF.cw (tx_p3) ?_
            refine r_aload_n (q := 72) dX7_readsCommand_71 rfl rfl rfl ?_
            refine r_getfield (q := 75) dX7_readsCommand_72 f_X7_readsCommand_32 tx_s rfl rfl ?_
            rw [rc4] at hp
            refine r_if_lt (q := 82) (q2 := 78) dX7_readsCommand_75 (by decide) rfl (fun h75 => ?_) (fun h75 => ?_)
            · rw [if_pos h75] at hp
              refine r_iconst (q := 83) (v := 0) dX7_readsCommand_82 rfl rfl ?_
              refine r_zret dX7_readsCommand_83 rfl (by decide) (Nat.le_of_ble_eq_true rfl) (Nat.le_of_ble_eq_true rfl) ?_
              exact hp
            · rw [if_neg h75] at hp
              refine r_iconst (q := 79) (v := 1) dX7_readsCommand_78 rfl rfl ?_
              refine r_goto (q := 83) dX7_readsCommand_79 (by decide) ?_
              refine r_zret dX7_readsCommand_83 rfl (by decide) (Nat.le_of_ble_eq_true rfl) (Nat.le_of_ble_eq_true rfl) ?_
              exact hp
      · rw [if_pos h34] at hp
        refine r_iconst (q := 38) (v := 1) dX7_readsCommand_37 rfl rfl ?_
        refine r_zret dX7_readsCommand_38 rfl (by decide) (Nat.le_of_ble_eq_true rfl) (Nat.le_of_ble_eq_true rfl) ?_
        exact hp
    · rw [if_neg h21] at hp
      refine r_iconst (q := 25) (v := 0) dX7_readsCommand_24 rfl rfl ?_
      refine r_zret dX7_readsCommand_25 rfl (by decide) (Nat.le_of_ble_eq_true rfl) (Nat.le_of_ble_eq_true rfl) ?_
      exact hp
  · rw [if_pos h4] at hp
    refine r_iconst (q := 8) (v := 0) dX7_readsCommand_7 rfl rfl ?_
    refine r_zret dX7_readsCommand_8 rfl (by decide) (Nat.le_of_ble_eq_true rfl) (Nat.le_of_ble_eq_true rfl) ?_
    exact hp
set_option maxRecDepth 100000 in
set_option maxHeartbeats 4000000 in
theorem lp_X7_ff {E : xE} {Po : xPo} {w0 w : xW} {t : Nat} {f : Nat → Int32} (hf : w.1 (t + 1) = some (sgnE E f)) (n : Nat) : ∀ (j r : Nat) (c : Nat → Int32) (m : Nat) (hm : m < 9) (hr : j + r = 60) (hp : Po (.inl (some (.int (ffF f r c m).1))) (tx E w t (ffF f r c m).2.1 (ffF f r c m).2.2)) (hn : r < n), WF M_X7_firstFault E Po w0 7 [some (.ref t), some (.int (nI j))] [] (tx E w t c m) 0 0 := by
  induction n with
  | zero => intro j r c m hm hr hp hn; exact absurd hn (Nat.not_lt_zero _)
  | succ n ih =>
    intro j r c m hm hr hp hn
    refine r_iload_n (q := 8) dX7_firstFault_7 rfl rfl rfl ?_
    refine r_bipush (q := 10) (v := 60) dX7_firstFault_8 (by decide) rfl ?_
    refine r_icmp_ge (q := 58) (q2 := 13) dX7_firstFault_10 (by decide) rfl (fun h10 => ?_) (fun h10 => ?_)
    · obtain rfl : r = 0 := by have := (nI_leI (a := 60) (by omega) (by omega)).mp h10; omega
      refine r_aload_n (q := 59) dX7_firstFault_58 rfl rfl rfl ?_
      refine r_getfield (q := 62) dX7_firstFault_59 f_X7_firstFault_17 tx_s rfl rfl ?_
      refine r_iret dX7_firstFault_62 rfl (Nat.le_of_ble_eq_true rfl) (Nat.le_of_ble_eq_true rfl) ?_
      exact hp
    · have h77 : ¬ 60 ≤ j := fun z => h10 ((nI_leI (a := 60) (by omega) (by omega)).mpr z)
      obtain ⟨r2, rfl⟩ : ∃ r2, r = r2 + 1 := ⟨r - 1, by omega⟩
      rw [ffF, ff1] at hp
      refine r_aload_n (q := 14) dX7_firstFault_13 rfl rfl rfl ?_
      refine r_callV (q := 17) (ci := 9) (As := []) dX7_firstFault_14 s_X7_firstFault_35 tx_s rfl rfl rfl (Nat.le_of_ble_eq_true rfl) rfl rfl rfl (Nat.le_of_ble_eq_true rfl) (Nat.le_of_ble_eq_true rfl) ⟨(Nat.le_of_ble_eq_true rfl), (Nat.le_of_ble_eq_true rfl)⟩ rfl ?_
      refine ct_X7_readsCommand hf hm ?_
      show WF _ E Po _ _ _ _ _ _ _
      refine r_if_ne (q := 25) (q2 := 20) dX7_firstFault_17 (by decide) rfl (fun h17 => ?_) (fun h17 => ?_)
      · rw [if_neg h17] at hp
        refine r_aload_n (q := 26) dX7_firstFault_25 rfl rfl rfl ?_
        refine r_getfield (q := 29) dX7_firstFault_26 f_X7_firstFault_17 tx_s rfl rfl ?_
        refine r_aload_n (q := 30) dX7_firstFault_29 rfl rfl rfl ?_
        refine r_getfield (q := 33) dX7_firstFault_30 f_X7_firstFault_13 tx_s rfl rfl ?_
        refine r_icmp_lt (q := 38) (q2 := 36) dX7_firstFault_33 (by decide) rfl (fun h33 => ?_) (fun h33 => ?_)
        · rw [if_pos h33] at hp
          refine r_aload_n (q := 39) dX7_firstFault_38 rfl rfl rfl ?_
          refine r_bipush (q := 41) (v := 59) dX7_firstFault_39 (by decide) rfl ?_
          refine r_callV (q := 44) (ci := 9) (As := [_]) dX7_firstFault_41 s_X7_firstFault_39 tx_s rfl rfl rfl (Nat.le_of_ble_eq_true rfl) rfl rfl rfl (Nat.le_of_ble_eq_true rfl) (Nat.le_of_ble_eq_true rfl) ⟨(Nat.le_of_ble_eq_true rfl), (Nat.le_of_ble_eq_true rfl)⟩ rfl ?_
          refine ct_ac hf ?_
          show WF _ E Po _ _ _ _ _ _ _
          refine r_if_ne (q := 52) (q2 := 47) dX7_firstFault_44 (by decide) rfl (fun h44 => ?_) (fun h44 => ?_)
          · rw [if_neg h44] at hp
            refine r_iinc (q := 55) dX7_firstFault_52 rfl (Nat.le_of_ble_eq_true rfl) (xone_of rfl) rfl ?_
            rw [show nI j + Int32.ofInt 1 = nI (j + 1) from nI_1 j]
            refine r_goto (q := 7) dX7_firstFault_55 (by decide) ?_
            exact ih (j + 1) r2 _ _ (rcS_m hm) (by omega) hp (by omega)
          · rw [if_pos h44] at hp
            refine r_aload_n (q := 48) dX7_firstFault_47 rfl rfl rfl ?_
            refine r_getfield (q := 51) dX7_firstFault_48 f_X7_firstFault_17 tx_s rfl rfl ?_
            refine r_iret dX7_firstFault_51 rfl (Nat.le_of_ble_eq_true rfl) (Nat.le_of_ble_eq_true rfl) ?_
            exact hp
        · rw [if_neg h33] at hp
          refine r_iconst (q := 37) (v := (-1)) dX7_firstFault_36 rfl rfl ?_
          refine r_iret dX7_firstFault_37 rfl (Nat.le_of_ble_eq_true rfl) (Nat.le_of_ble_eq_true rfl) ?_
          exact hp
      · rw [if_pos h17] at hp
        refine r_aload_n (q := 21) dX7_firstFault_20 rfl rfl rfl ?_
        refine r_getfield (q := 24) dX7_firstFault_21 f_X7_firstFault_17 tx_s rfl rfl ?_
        refine r_iret dX7_firstFault_24 rfl (Nat.le_of_ble_eq_true rfl) (Nat.le_of_ble_eq_true rfl) ?_
        exact hp
set_option maxRecDepth 100000 in
set_option maxHeartbeats 4000000 in
theorem ct_X7_firstFault {E : xE} {Po : xPo} {w : xW} {t m : Nat} {c f : Nat → Int32} (hf : w.1 (t + 1) = some (sgnE E f)) (hm : m < 9) (hp : Po (.inl (some (.int (ffS f c m).1))) (tx E w t (ffS f c m).2.1 (ffS f c m).2.2)) : Ct M_X7_firstFault E [.ref t] (tx E w t c m) Po := by
  refine Ct.of (ws2 := xAll) (L := [some (.ref t), none]) (by decide +kernel) rfl rfl (List.forall_mem_cons.mpr ⟨rfl, fun _ h => absurd h List.not_mem_nil⟩) (Nat.le_of_ble_eq_true rfl) rfl ?_
  refine r_aload_n (q := 1) dX7_firstFault_0 rfl rfl rfl ?_
  refine r_iconst (q := 2) (v := 0) dX7_firstFault_1 rfl rfl ?_
  refine r_putfield (q := 5) dX7_firstFault_2 f_X7_firstFault_17 tx_s rfl rfl (Nat.le_of_ble_eq_true rfl) rfl ?_
  refine WF.cw (tx_p1) ?_
  refine r_iconst (q := 6) (v := 0) dX7_firstFault_5 rfl rfl ?_
  refine r_istore_n (q := 7) dX7_firstFault_6 rfl (Nat.le_of_ble_eq_true rfl) (xone_of rfl) rfl ?_
  exact lp_X7_ff hf 61 0 60 _ _ hm (by omega) hp (by omega)
set_option maxRecDepth 100000 in
set_option maxHeartbeats 4000000 in
theorem ct_X7_init {E : xE} {Po : xPo} {w : xW} {b : Nat} (h2 : w.2 = b + 1) (hw : w.1 b = some (.inr (9, [.null, .int 0, .int 0, .null, .int 0, .int 0]))) (hp : Po (.inl none) (pst w b 2 (fun o => if o = 0 then txtE E b (fun _ => 0) 0 else sgnE E (fun _ => 0)))) : Ct M_X7_init E [.ref b] w Po := by
  refine Ct.of (ws2 := xAll) (L := [some (.ref b)]) (by decide +kernel) rfl rfl (List.forall_mem_cons.mpr ⟨rfl, fun _ h => absurd h List.not_mem_nil⟩) (Nat.le_of_ble_eq_true rfl) rfl ?_
  rw [pst_0 h2 hw]
  refine r_aload_n (q := 1) dX7_init_0 rfl rfl rfl ?_
  refine r_objInit (q := 4) dX7_init_1 o_X7_init (List.mem_cons_of_mem _ oi1) (List.mem_cons_of_mem _ oi2) (Nat.le_of_ble_eq_true rfl) (Nat.le_of_ble_eq_true rfl) (Nat.le_of_ble_eq_true rfl) rfl ?_
  refine r_aload_n (q := 5) dX7_init_4 rfl rfl rfl ?_
  refine r_bipush (q := 7) (v := 60) dX7_init_5 (by decide) rfl ?_
  refine r_newarray (q := 9) (ty := .char) (t0 := 1) (N := 60) (a0 := (60, .inl (fun _ => 0))) dX7_init_7 rfl (List.mem_cons_of_mem _ aw_char) rfl (fun _ h => h) rfl (by decide) (by decide) (Nat.le_of_ble_eq_true rfl) (Nat.le_of_ble_eq_true rfl) (Nat.le_of_ble_eq_true rfl) rfl ?_
  rw [pst_add, pst_2]
  refine r_putfieldF (q := 12) dX7_init_9 f_X7_init_9 rfl rfl (pst_at0 (by omega)) rfl rfl (by exact Nat.le_of_ble_eq_true rfl) rfl ?_
  rw [pst_set0 (by omega)]
  refine r_aload_n (q := 13) dX7_init_12 rfl rfl rfl ?_
  refine r_iconst (q := 14) (v := 0) dX7_init_13 rfl rfl ?_
  refine r_putfield (q := 17) dX7_init_14 f_X7_init_13 (pst_at0 (by omega)) rfl rfl (by exact Nat.le_of_ble_eq_true rfl) rfl ?_
  rw [pst_set0 (by omega)]
  refine r_aload_n (q := 18) dX7_init_17 rfl rfl rfl ?_
  refine r_iconst (q := 19) (v := 0) dX7_init_18 rfl rfl ?_
  refine r_putfield (q := 22) dX7_init_19 f_X7_init_17 (pst_at0 (by omega)) rfl rfl (by exact Nat.le_of_ble_eq_true rfl) rfl ?_
  rw [pst_set0 (by omega)]
  refine r_aload_n (q := 23) dX7_init_22 rfl rfl rfl ?_
  refine r_gets dX7_init_23 g_X7_init_20 (k_cmd (i := 0) (by decide)) rfl ?_
  refine r_putfield (q := 29) dX7_init_26 f_X7_init_26 (pst_at0 (by omega)) rfl rfl (by exact Nat.le_of_ble_eq_true rfl) rfl ?_
  rw [pst_set0 (by omega)]
  refine r_aload_n (q := 30) dX7_init_29 rfl rfl rfl ?_
  refine r_iconst (q := 31) (v := 0) dX7_init_30 rfl rfl ?_
  refine r_putfield (q := 34) dX7_init_31 f_X7_init_29 (pst_at0 (by omega)) rfl rfl (by exact Nat.le_of_ble_eq_true rfl) rfl ?_
  rw [pst_set0 (by omega)]
  refine r_aload_n (q := 35) dX7_init_34 rfl rfl rfl ?_
  refine r_iconst (q := 36) (v := 0) dX7_init_35 rfl rfl ?_
  refine r_putfield (q := 39) dX7_init_36 f_X7_init_32 (pst_at0 (by omega)) rfl rfl (by exact Nat.le_of_ble_eq_true rfl) rfl ?_
  rw [pst_set0 (by omega)]
  refine r_vret dX7_init_39 rfl (Nat.le_of_ble_eq_true rfl) (Nat.le_of_ble_eq_true rfl) ?_
  rw [pst_congr (g := fun o => if o = 0 then txtE E b (fun _ => 0) 0 else sgnE E (fun _ => 0)) (fun o ho => ?_)]
  · exact hp
  · rcases (show o = 0 ∨ o = 1 by omega) with rfl | rfl
    · rfl
    · rfl
