/-! ===== 25.text: the input (rows laid by wip/p39/gen/make25.py) ===== -/
/-- the input: length, place, first, second; the command -/
def txtE (E : xE) (t : Nat) (c : Nat → Int32) (m : Nat) : va_E := .inr (9, [.ref (t + 1), .int (c 0), .int (c 1), .ref (kE E m), .int (c 2), .int (c 3)])
def sgnE (E : xE) (f : Nat → Int32) : va_E := .inl (E.1.2 1, 60, .inl f)
def tx (E : xE) (w : xW) (t : Nat) (c : Nat → Int32) (m : Nat) : xW := xset w t (txtE E t c m)
theorem tx_s {E : xE} {w : xW} {t m : Nat} {c : Nat → Int32} : (tx E w t c m).1 t = some (txtE E t c m) := xset_s
theorem tx_o {E : xE} {w : xW} {t m q : Nat} {c : Nat → Int32} (h : q ≠ t) : (tx E w t c m).1 q = w.1 q := xset_o h
theorem tx_f {E : xE} {w : xW} {t m : Nat} {c f : Nat → Int32} (h : w.1 (t + 1) = some (sgnE E f)) : (tx E w t c m).1 (t + 1) = some (sgnE E f) := (tx_o (by omega)).trans h
theorem tx_p0 {E : xE} {w : xW} {t m : Nat} {c : Nat → Int32} {x : Int32} : xset (tx E w t c m) t (.inr (9, [.ref (t + 1), .int x, .int (c 1), .ref (kE E m), .int (c 2), .int (c 3)])) = tx E w t (upd c 0 x) m := xset_xset
theorem tx_p1 {E : xE} {w : xW} {t m : Nat} {c : Nat → Int32} {x : Int32} : xset (tx E w t c m) t (.inr (9, [.ref (t + 1), .int (c 0), .int x, .ref (kE E m), .int (c 2), .int (c 3)])) = tx E w t (upd c 1 x) m := xset_xset
theorem tx_p2 {E : xE} {w : xW} {t m : Nat} {c : Nat → Int32} {x : Int32} : xset (tx E w t c m) t (.inr (9, [.ref (t + 1), .int (c 0), .int (c 1), .ref (kE E m), .int x, .int (c 3)])) = tx E w t (upd c 2 x) m := xset_xset
theorem tx_p3 {E : xE} {w : xW} {t m : Nat} {c : Nat → Int32} {x : Int32} : xset (tx E w t c m) t (.inr (9, [.ref (t + 1), .int (c 0), .int (c 1), .ref (kE E m), .int (c 2), .int x])) = tx E w t (upd c 3 x) m := xset_xset
theorem tx_pm {E : xE} {w : xW} {t m i : Nat} {c : Nat → Int32} : xset (tx E w t c m) t (.inr (9, [.ref (t + 1), .int (c 0), .int (c 1), .ref (kE E i), .int (c 2), .int (c 3)])) = tx E w t c i := xset_xset
theorem in60 {x : Int32} (h0 : ¬ x < 0) (h1 : ¬ (60 : Int32) ≤ x) : vp_in x 60 := by
  obtain ⟨j, hj, rfl⟩ := nI_of h0
  exact vp_in_nI (Nat.not_le.mp (fun z => h1 ((nI_leI (a := 60) (by omega) hj).mpr z))) (by decide)
theorem in60t {x : Int32} (h0 : ¬ x < 0) (h1 : x < (60 : Int32)) : vp_in x 60 := in60 h0 (fun z => by
  have := Int32.lt_iff_toInt_lt.mp h1
  have := Int32.le_iff_toInt_le.mp z
  omega)
/-- the sign at a place, or -1 -/
def sgS (f : Nat → Int32) (n x : Int32) : Int32 := if x < 0 then -1 else if n ≤ x then -1 else if 60 ≤ x then -1 else f x.toNatClampNeg
theorem k_wi : ∀ i, i < 9 → xWrd.getD i 0 < 54 := by decide
set_option maxRecDepth 100000 in
set_option maxHeartbeats 4000000 in
theorem ct_X7_signAt {E : xE} {Po : xPo} {w : xW} {t m : Nat} {c f : Nat → Int32} (hf : w.1 (t + 1) = some (sgnE E f)) {x : Int32} (hp : Po (.inl (some (.int (sgS f (c 0) x)))) (tx E w t c m)) : Ct M_X7_signAt E [.ref t, .int x] (tx E w t c m) Po := by
  refine Ct.of (ws2 := xAll) (L := [some (.ref t), some (.int x)]) (by decide +kernel) rfl rfl (List.forall_mem_cons.mpr ⟨rfl, List.forall_mem_cons.mpr ⟨rfl, fun _ h => absurd h List.not_mem_nil⟩⟩) (Nat.le_of_ble_eq_true rfl) rfl ?_
  unfold sgS at hp
  refine r_iload_n (q := 1) dX7_signAt_0 rfl rfl rfl ?_
  refine r_if_lt (q := 27) (q2 := 4) dX7_signAt_1 (by decide) rfl (fun h1 => ?_) (fun h1 => ?_)
  · rw [if_pos h1] at hp
    refine r_iconst (q := 28) (v := (-1)) dX7_signAt_27 rfl rfl ?_
    refine r_iret dX7_signAt_28 rfl (Nat.le_of_ble_eq_true rfl) (Nat.le_of_ble_eq_true rfl) ?_
    exact hp
  · rw [if_neg h1] at hp
    refine r_iload_n (q := 5) dX7_signAt_4 rfl rfl rfl ?_
    refine r_aload_n (q := 6) dX7_signAt_5 rfl rfl rfl ?_
    refine r_getfield (q := 9) dX7_signAt_6 f_X7_signAt_13 tx_s rfl rfl ?_
    refine r_icmp_ge (q := 27) (q2 := 12) dX7_signAt_9 (by decide) rfl (fun h9 => ?_) (fun h9 => ?_)
    · rw [if_pos h9] at hp
      refine r_iconst (q := 28) (v := (-1)) dX7_signAt_27 rfl rfl ?_
      refine r_iret dX7_signAt_28 rfl (Nat.le_of_ble_eq_true rfl) (Nat.le_of_ble_eq_true rfl) ?_
      exact hp
    · rw [if_neg h9] at hp
      refine r_iload_n (q := 13) dX7_signAt_12 rfl rfl rfl ?_
      refine r_bipush (q := 15) (v := 60) dX7_signAt_13 (by decide) rfl ?_
      refine r_icmp_ge (q := 27) (q2 := 18) dX7_signAt_15 (by decide) rfl (fun h15 => ?_) (fun h15 => ?_)
      · rw [if_pos h15] at hp
        refine r_iconst (q := 28) (v := (-1)) dX7_signAt_27 rfl rfl ?_
        refine r_iret dX7_signAt_28 rfl (Nat.le_of_ble_eq_true rfl) (Nat.le_of_ble_eq_true rfl) ?_
        exact hp
      · rw [if_neg h15] at hp
        refine r_aload_n (q := 19) dX7_signAt_18 rfl rfl rfl ?_
        refine r_getfield (q := 22) dX7_signAt_19 f_X7_signAt_9 tx_s rfl rfl ?_
        refine r_iload_n (q := 23) dX7_signAt_22 rfl rfl rfl ?_
        refine r_caload (q := 24) dX7_signAt_23 (tx_f hf) (in60 h1 h15) rfl ?_
        refine r_goto (q := 28) dX7_signAt_24 (by decide) ?_
        refine r_iret dX7_signAt_28 rfl (Nat.le_of_ble_eq_true rfl) (Nat.le_of_ble_eq_true rfl) ?_
        exact hp
set_option maxRecDepth 100000 in
set_option maxHeartbeats 4000000 in
theorem ct_X7_takes {E : xE} {Po : xPo} {w : xW} {t m : Nat} {c f : Nat → Int32} (hf : w.1 (t + 1) = some (sgnE E f)) {x : Int32} (hx : vp_nar .char x = x) (hp : if c 0 < 0 then Po (.inl (some (.int 0))) (tx E w t c m) else if c 0 < 60 then Po (.inl (some (.int 1))) (tx E (xset w (t + 1) (sgnE E (upd f (c 0).toNatClampNeg x))) t (upd c 0 (c 0 + 1)) m) else Po (.inl (some (.int 0))) (tx E w t c m)) : Ct M_X7_takes E [.ref t, .int x] (tx E w t c m) Po := by
  refine Ct.of (ws2 := xAll) (L := [some (.ref t), some (.int x)]) (by decide +kernel) rfl rfl (List.forall_mem_cons.mpr ⟨rfl, List.forall_mem_cons.mpr ⟨rfl, fun _ h => absurd h List.not_mem_nil⟩⟩) (Nat.le_of_ble_eq_true rfl) rfl ?_
  refine r_aload_n (q := 1) dX7_takes_0 rfl rfl rfl ?_
  refine r_getfield (q := 4) dX7_takes_1 f_X7_takes_13 tx_s rfl rfl ?_
  refine r_if_lt (q := 16) (q2 := 7) dX7_takes_4 (by decide) rfl (fun h4 => ?_) (fun h4 => ?_)
  · rw [if_pos h4] at hp
    refine r_iconst (q := 17) (v := 0) dX7_takes_16 rfl rfl ?_
    refine r_zret dX7_takes_17 rfl (by decide) (Nat.le_of_ble_eq_true rfl) (Nat.le_of_ble_eq_true rfl) ?_
    exact hp
  · rw [if_neg h4] at hp
    refine r_aload_n (q := 8) dX7_takes_7 rfl rfl rfl ?_
    refine r_getfield (q := 11) dX7_takes_8 f_X7_takes_13 tx_s rfl rfl ?_
    refine r_bipush (q := 13) (v := 60) dX7_takes_11 (by decide) rfl ?_
    refine r_icmp_lt (q := 18) (q2 := 16) dX7_takes_13 (by decide) rfl (fun h13 => ?_) (fun h13 => ?_)
    · rw [if_pos h13] at hp
      refine r_aload_n (q := 19) dX7_takes_18 rfl rfl rfl ?_
      refine r_getfield (q := 22) dX7_takes_19 f_X7_takes_9 tx_s rfl rfl ?_
      refine r_aload_n (q := 23) dX7_takes_22 rfl rfl rfl ?_
      refine r_getfield (q := 26) dX7_takes_23 f_X7_takes_13 tx_s rfl rfl ?_
      refine r_iload_n (q := 27) dX7_takes_26 rfl rfl rfl ?_
      refine r_castore (q := 28) dX7_takes_27 (tx_f hf) (in60t h4 h13) rfl ?_
      rw [hx]
      refine WF.cw (xset_comm (show t ≠ t + 1 by omega)) ?_
      refine r_aload_n (q := 29) dX7_takes_28 rfl rfl rfl ?_
      refine r_dup (q := 30) dX7_takes_29 rfl rfl ?_
      refine r_getfield (q := 33) dX7_takes_30 f_X7_takes_13 xset_s rfl rfl ?_
      refine r_iconst (q := 34) (v := 1) dX7_takes_33 rfl rfl ?_
      refine r_iadd (q := 35) dX7_takes_34 rfl ?_
      refine r_putfield (q := 38) dX7_takes_35 f_X7_takes_13 xset_s rfl rfl (Nat.le_of_ble_eq_true rfl) rfl ?_
      refine WF.cw ((tx_p0 (w := xset w (t + 1) (sgnE E (upd f (c 0).toNatClampNeg x))))) ?_
      refine r_iconst (q := 39) (v := 1) dX7_takes_38 rfl rfl ?_
      refine r_zret dX7_takes_39 rfl (by decide) (Nat.le_of_ble_eq_true rfl) (Nat.le_of_ble_eq_true rfl) ?_
      exact hp
    · rw [if_neg h13] at hp
      refine r_iconst (q := 17) (v := 0) dX7_takes_16 rfl rfl ?_
      refine r_zret dX7_takes_17 rfl (by decide) (Nat.le_of_ble_eq_true rfl) (Nat.le_of_ble_eq_true rfl) ?_
      exact hp
set_option maxRecDepth 100000 in
set_option maxHeartbeats 4000000 in
theorem ct_X7_readDigit {E : xE} {Po : xPo} {w : xW} {t m : Nat} {c f : Nat → Int32} (hf : w.1 (t + 1) = some (sgnE E f)) (hp : if sgS f (c 0) (c 1) < 48 then Po (.inl (some (.int (-1)))) (tx E w t c m) else if sgS f (c 0) (c 1) ≤ 57 then Po (.inl (some (.int (sgS f (c 0) (c 1) - 48)))) (tx E w t (upd c 1 (c 1 + 1)) m) else Po (.inl (some (.int (-1)))) (tx E w t c m)) : Ct M_X7_readDigit E [.ref t] (tx E w t c m) Po := by
  refine Ct.of (ws2 := xAll) (L := [some (.ref t), none]) (by decide +kernel) rfl rfl (List.forall_mem_cons.mpr ⟨rfl, fun _ h => absurd h List.not_mem_nil⟩) (Nat.le_of_ble_eq_true rfl) rfl ?_
  refine r_aload_n (q := 1) dX7_readDigit_0 rfl rfl rfl ?_
  refine r_aload_n (q := 2) dX7_readDigit_1 rfl rfl rfl ?_
  refine r_getfield (q := 5) dX7_readDigit_2 f_X7_readDigit_17 tx_s rfl rfl ?_
  refine r_callV (q := 8) (ci := 9) (As := [_]) dX7_readDigit_5 s_X7_readDigit_75 tx_s rfl rfl rfl (Nat.le_of_ble_eq_true rfl) rfl rfl rfl (Nat.le_of_ble_eq_true rfl) (Nat.le_of_ble_eq_true rfl) ⟨(Nat.le_of_ble_eq_true rfl), (Nat.le_of_ble_eq_true rfl)⟩ rfl ?_
  refine ct_X7_signAt hf ?_
  show WF _ E Po _ _ _ _ _ _ _
  refine r_istore_n (q := 9) dX7_readDigit_8 rfl (Nat.le_of_ble_eq_true rfl) (xone_of rfl) rfl ?_
  refine r_iload_n (q := 10) dX7_readDigit_9 rfl rfl rfl ?_
  refine r_bipush (q := 12) (v := 48) dX7_readDigit_10 (by decide) rfl ?_
  refine r_icmp_lt (q := 21) (q2 := 15) dX7_readDigit_12 (by decide) rfl (fun h12 => ?_) (fun h12 => ?_)
  · rw [if_pos h12] at hp
    refine r_iconst (q := 22) (v := (-1)) dX7_readDigit_21 rfl rfl ?_
    refine r_iret dX7_readDigit_22 rfl (Nat.le_of_ble_eq_true rfl) (Nat.le_of_ble_eq_true rfl) ?_
    exact hp
  · rw [if_neg h12] at hp
    refine r_iload_n (q := 16) dX7_readDigit_15 rfl rfl rfl ?_
    refine r_bipush (q := 18) (v := 57) dX7_readDigit_16 (by decide) rfl ?_
    refine r_icmp_le (q := 23) (q2 := 21) dX7_readDigit_18 (by decide) rfl (fun h18 => ?_) (fun h18 => ?_)
    · rw [if_pos h18] at hp
      refine r_aload_n (q := 24) dX7_readDigit_23 rfl rfl rfl ?_
      refine r_dup (q := 25) dX7_readDigit_24 rfl rfl ?_
      refine r_getfield (q := 28) dX7_readDigit_25 f_X7_readDigit_17 tx_s rfl rfl ?_
      refine r_iconst (q := 29) (v := 1) dX7_readDigit_28 rfl rfl ?_
      refine r_iadd (q := 30) dX7_readDigit_29 rfl ?_
      refine r_putfield (q := 33) dX7_readDigit_30 f_X7_readDigit_17 tx_s rfl rfl (Nat.le_of_ble_eq_true rfl) rfl ?_
      refine WF.cw (tx_p1) ?_
      refine r_iload_n (q := 34) dX7_readDigit_33 rfl rfl rfl ?_
      refine r_bipush (q := 36) (v := 48) dX7_readDigit_34 (by decide) rfl ?_
      refine r_isub (q := 37) dX7_readDigit_36 rfl ?_
      refine r_iret dX7_readDigit_37 rfl (Nat.le_of_ble_eq_true rfl) (Nat.le_of_ble_eq_true rfl) ?_
      exact hp
    · rw [if_neg h18] at hp
      refine r_iconst (q := 22) (v := (-1)) dX7_readDigit_21 rfl rfl ?_
      refine r_iret dX7_readDigit_22 rfl (Nat.le_of_ble_eq_true rfl) (Nat.le_of_ble_eq_true rfl) ?_
      exact hp
set_option maxRecDepth 100000 in
set_option maxHeartbeats 4000000 in
theorem ct_X7_accepts {E : xE} {Po : xPo} {w : xW} {t m : Nat} {c f : Nat → Int32} (hf : w.1 (t + 1) = some (sgnE E f)) {x : Int32} (hp : if sgS f (c 0) (c 1) = x then Po (.inl (some (.int 1))) (tx E w t (upd c 1 (c 1 + 1)) m) else Po (.inl (some (.int 0))) (tx E w t c m)) : Ct M_X7_accepts E [.ref t, .int x] (tx E w t c m) Po := by
  refine Ct.of (ws2 := xAll) (L := [some (.ref t), some (.int x)]) (by decide +kernel) rfl rfl (List.forall_mem_cons.mpr ⟨rfl, List.forall_mem_cons.mpr ⟨rfl, fun _ h => absurd h List.not_mem_nil⟩⟩) (Nat.le_of_ble_eq_true rfl) rfl ?_
  refine r_aload_n (q := 1) dX7_accepts_0 rfl rfl rfl ?_
  refine r_aload_n (q := 2) dX7_accepts_1 rfl rfl rfl ?_
  refine r_getfield (q := 5) dX7_accepts_2 f_X7_accepts_17 tx_s rfl rfl ?_
  refine r_callV (q := 8) (ci := 9) (As := [_]) dX7_accepts_5 s_X7_accepts_75 tx_s rfl rfl rfl (Nat.le_of_ble_eq_true rfl) rfl rfl rfl (Nat.le_of_ble_eq_true rfl) (Nat.le_of_ble_eq_true rfl) ⟨(Nat.le_of_ble_eq_true rfl), (Nat.le_of_ble_eq_true rfl)⟩ rfl ?_
  refine ct_X7_signAt hf ?_
  show WF _ E Po _ _ _ _ _ _ _
  refine r_iload_n (q := 9) dX7_accepts_8 rfl rfl rfl ?_
  refine r_icmp_eq (q := 14) (q2 := 12) dX7_accepts_9 (by decide) rfl (fun h9 => ?_) (fun h9 => ?_)
  · rw [if_pos h9] at hp
    refine r_aload_n (q := 15) dX7_accepts_14 rfl rfl rfl ?_
    refine r_dup (q := 16) dX7_accepts_15 rfl rfl ?_
    refine r_getfield (q := 19) dX7_accepts_16 f_X7_accepts_17 tx_s rfl rfl ?_
    refine r_iconst (q := 20) (v := 1) dX7_accepts_19 rfl rfl ?_
    refine r_iadd (q := 21) dX7_accepts_20 rfl ?_
    refine r_putfield (q := 24) dX7_accepts_21 f_X7_accepts_17 tx_s rfl rfl (Nat.le_of_ble_eq_true rfl) rfl ?_
    refine WF.cw (tx_p1) ?_
    refine r_iconst (q := 25) (v := 1) dX7_accepts_24 rfl rfl ?_
    refine r_zret dX7_accepts_25 rfl (by decide) (Nat.le_of_ble_eq_true rfl) (Nat.le_of_ble_eq_true rfl) ?_
    exact hp
  · rw [if_neg h9] at hp
    refine r_iconst (q := 13) (v := 0) dX7_accepts_12 rfl rfl ?_
    refine r_zret dX7_accepts_13 rfl (by decide) (Nat.le_of_ble_eq_true rfl) (Nat.le_of_ble_eq_true rfl) ?_
    exact hp
/-- how many signs from place a on fit the text i -/
def fiF (g b : Nat → Int32) : Nat → Nat → Nat
  | 0, j => j
  | n + 1, j => if g j = b j then fiF g b n (j + 1) else j
def fiS (f : Nat → Int32) (n a : Int32) (i : Nat) : Nat := fiF (fun j => sgS f n (a + nI j)) (fun j => (xByt.getD i []).getD j 0) (xLen.getD i 0) 0
theorem fiF_le {g b : Nat → Int32} : ∀ n j, fiF g b n j ≤ j + n := by
  intro n
  induction n with
  | zero => intro j; exact Nat.le_refl _
  | succ n ih =>
    intro j
    unfold fiF
    split
    · have := ih (j + 1); omega
    · omega
set_option maxRecDepth 100000 in
set_option maxHeartbeats 4000000 in
theorem lp_X7_fit {E : xE} {Po : xPo} {w0 w : xW} {t m i : Nat} {c f : Nat → Int32} (hf : w.1 (t + 1) = some (sgnE E f)) (hi : i < 54) (n : Nat) : ∀ (j r : Nat) (hr : j + r = xLen.getD i 0) (hp : Po (.inl (some (.int (nI (fiF (fun j => sgS f (c 0) (c 1 + nI j)) (fun j => (xByt.getD i []).getD j 0) r j))))) (tx E w t c m)) (hn : r < n), WF M_X7_fittingSigns E Po w0 2 [some (.ref t), some (.ref (kS E i)), some (.int (nI j))] [] (tx E w t c m) 0 0 := by
  induction n with
  | zero => intro j r hr hp hn; exact absurd hn (Nat.not_lt_zero _)
  | succ n ih =>
    intro j r hr hp hn
    refine r_iload_n (q := 3) dX7_fittingSigns_2 rfl rfl rfl ?_
    refine r_aload_n (q := 4) dX7_fittingSigns_3 rfl rfl rfl ?_
    refine r_callK (q := 7) (As := []) dX7_fittingSigns_4 s_X7_fittingSigns_71 (k_so hi) rfl rfl (Nat.le_of_ble_eq_true rfl) rfl rfl rfl (Nat.le_of_ble_eq_true rfl) (Nat.le_of_ble_eq_true rfl) ⟨(Nat.le_of_ble_eq_true rfl), (Nat.le_of_ble_eq_true rfl)⟩ rfl ?_
    refine ct_J0_length_8abf5 hi ?_
    show WF _ E Po _ _ _ _ _ _ _
    refine r_icmp_ge (q := 34) (q2 := 10) dX7_fittingSigns_7 (by decide) rfl (fun h7 => ?_) (fun h7 => ?_)
    · have hL := (k_len i hi).2.1
      obtain rfl : r = 0 := by have := (nI_leI (by omega) (by omega)).mp h7; omega
      refine r_iload_n (q := 35) dX7_fittingSigns_34 rfl rfl rfl ?_
      refine r_iret dX7_fittingSigns_35 rfl (Nat.le_of_ble_eq_true rfl) (Nat.le_of_ble_eq_true rfl) ?_
      exact hp
    · have hL := (k_len i hi).2.1
      have h77 : ¬ xLen.getD i 0 ≤ j := fun z => h7 ((nI_leI (by omega) (by omega)).mpr z)
      obtain ⟨r2, rfl⟩ : ∃ r2, r = r2 + 1 := ⟨r - 1, by omega⟩
      rw [fiF] at hp
      refine r_aload_n (q := 11) dX7_fittingSigns_10 rfl rfl rfl ?_
      refine r_aload_n (q := 12) dX7_fittingSigns_11 rfl rfl rfl ?_
      refine r_getfield (q := 15) dX7_fittingSigns_12 f_X7_fittingSigns_17 tx_s rfl rfl ?_
      refine r_iload_n (q := 16) dX7_fittingSigns_15 rfl rfl rfl ?_
      refine r_iadd (q := 17) dX7_fittingSigns_16 rfl ?_
      refine r_callV (q := 20) (ci := 9) (As := [_]) dX7_fittingSigns_17 s_X7_fittingSigns_75 tx_s rfl rfl rfl (Nat.le_of_ble_eq_true rfl) rfl rfl rfl (Nat.le_of_ble_eq_true rfl) (Nat.le_of_ble_eq_true rfl) ⟨(Nat.le_of_ble_eq_true rfl), (Nat.le_of_ble_eq_true rfl)⟩ rfl ?_
      refine ct_X7_signAt hf ?_
      show WF _ E Po _ _ _ _ _ _ _
      refine r_aload_n (q := 21) dX7_fittingSigns_20 rfl rfl rfl ?_
      refine r_iload_n (q := 22) dX7_fittingSigns_21 rfl rfl rfl ?_
      refine r_callK (q := 25) (As := [_]) dX7_fittingSigns_22 s_X7_fittingSigns_79 (k_so hi) rfl rfl (Nat.le_of_ble_eq_true rfl) rfl rfl rfl (Nat.le_of_ble_eq_true rfl) (Nat.le_of_ble_eq_true rfl) ⟨(Nat.le_of_ble_eq_true rfl), (Nat.le_of_ble_eq_true rfl)⟩ rfl ?_
      refine ct_J0_charAt_5068e hi (by omega) ?_
      show WF _ E Po _ _ _ _ _ _ _
      refine r_icmp_ne (q := 34) (q2 := 28) dX7_fittingSigns_25 (by decide) rfl (fun h25 => ?_) (fun h25 => ?_)
      · rw [if_neg h25] at hp
        refine r_iload_n (q := 35) dX7_fittingSigns_34 rfl rfl rfl ?_
        refine r_iret dX7_fittingSigns_35 rfl (Nat.le_of_ble_eq_true rfl) (Nat.le_of_ble_eq_true rfl) ?_
        exact hp
      · rw [if_pos h25] at hp
        refine r_iinc (q := 31) dX7_fittingSigns_28 rfl (Nat.le_of_ble_eq_true rfl) (xone_of rfl) rfl ?_
        rw [show nI j + Int32.ofInt 1 = nI (j + 1) from nI_1 j]
        refine r_goto (q := 2) dX7_fittingSigns_31 (by decide) ?_
        exact ih (j + 1) r2 (by omega) hp (by omega)
set_option maxRecDepth 100000 in
set_option maxHeartbeats 4000000 in
theorem ct_X7_fittingSigns {E : xE} {Po : xPo} {w : xW} {t m : Nat} {c f : Nat → Int32} (hf : w.1 (t + 1) = some (sgnE E f)) {i : Nat} (hi : i < 54) (hp : Po (.inl (some (.int (nI (fiS f (c 0) (c 1) i))))) (tx E w t c m)) : Ct M_X7_fittingSigns E [.ref t, .ref (kS E i)] (tx E w t c m) Po := by
  refine Ct.of (ws2 := xAll) (L := [some (.ref t), some (.ref (kS E i)), none]) (by decide +kernel) rfl rfl (List.forall_mem_cons.mpr ⟨rfl, List.forall_mem_cons.mpr ⟨rfl, fun _ h => absurd h List.not_mem_nil⟩⟩) (Nat.le_of_ble_eq_true rfl) rfl ?_
  refine r_iconst (q := 1) (v := 0) dX7_fittingSigns_0 rfl rfl ?_
  refine r_istore_n (q := 2) dX7_fittingSigns_1 rfl (Nat.le_of_ble_eq_true rfl) (xone_of rfl) rfl ?_
  exact lp_X7_fit hf hi _ 0 _ (Nat.zero_add _) hp (Nat.lt_succ_self _)
/-- the word that stands at the place: how far the longest fits, whether one fits whole, which -/
def rwF (F : Nat → Nat) : Nat → Nat → Int32 → Int32 → Nat → Int32 × Int32 × Nat
  | 0, _, l, h, m => (l, h, m)
  | n + 1, i, l, h, m => if nI (F i) = nI (xLen.getD (xWrd.getD i 0) 0) then rwF F n (i + 1) (if l < nI (F i) then nI (F i) else l) 1 i else rwF F n (i + 1) (if l < nI (F i) then nI (F i) else l) h m
def rwS (f : Nat → Int32) (n a : Int32) (m : Nat) : Int32 × Int32 × Nat := rwF (fun i => fiS f n a (xWrd.getD i 0)) 9 0 0 0 m
set_option maxRecDepth 100000 in
set_option maxHeartbeats 4000000 in
theorem lp_X7_word {E : xE} {Po : xPo} {w0 w : xW} {t : Nat} {c f : Nat → Int32} (hf : w.1 (t + 1) = some (sgnE E f)) (n : Nat) : ∀ (i r : Nat) (l h : Int32) (m : Nat) (o4 o5 : Option Value) (hr : i + r = 9) (hh : narrow .boolean (.int h) = .int h) (hp : Po (.inl (some (.int (rwF (fun i => fiS f (c 0) (c 1) (xWrd.getD i 0)) r i l h m).2.1))) (tx E w t (upd c 1 (c 1 + (rwF (fun i => fiS f (c 0) (c 1) (xWrd.getD i 0)) r i l h m).1)) (rwF (fun i => fiS f (c 0) (c 1) (xWrd.getD i 0)) r i l h m).2.2)) (hn : r < n), WF M_X7_readsWord E Po w0 6 [some (.ref t), some (.int l), some (.int h), some (.int (nI i)), o4, o5] [] (tx E w t c m) 0 0 := by
  induction n with
  | zero => intro i r l h m o4 o5 hr hh hp hn; exact absurd hn (Nat.not_lt_zero _)
  | succ n ih =>
    intro i r l h m o4 o5 hr hh hp hn
    refine r_iload_n (q := 7) dX7_readsWord_6 rfl rfl rfl ?_
    refine r_getsN dX7_readsWord_7 (fun U h => h.2.1) k_allZ rfl ?_
    refine r_tlen dX7_readsWord_10 k_all rfl ?_
    refine r_icmp_ge (q := 66) (q2 := 14) dX7_readsWord_11 (by decide) rfl (fun h11 => ?_) (fun h11 => ?_)
    · obtain rfl : r = 0 := by have := (nI_leI (a := 9) (by omega) (by omega)).mp h11; omega
      refine r_aload_n (q := 67) dX7_readsWord_66 rfl rfl rfl ?_
      refine r_dup (q := 68) dX7_readsWord_67 rfl rfl ?_
      refine r_getfield (q := 71) dX7_readsWord_68 f_X7_readsWord_17 tx_s rfl rfl ?_
      refine r_iload_n (q := 72) dX7_readsWord_71 rfl rfl rfl ?_
      refine r_iadd (q := 73) dX7_readsWord_72 rfl ?_
      refine r_putfield (q := 76) dX7_readsWord_73 f_X7_readsWord_17 tx_s rfl rfl (Nat.le_of_ble_eq_true rfl) rfl ?_
      refine WF.cw (tx_p1) ?_
      refine r_iload_n (q := 77) dX7_readsWord_76 rfl rfl rfl ?_
      refine r_zret dX7_readsWord_77 rfl hh (Nat.le_of_ble_eq_true rfl) (Nat.le_of_ble_eq_true rfl) ?_
      exact hp
    · have hi9 : i < 9 := Nat.not_le.mp (fun z => h11 ((nI_leI (a := 9) (by omega) (by omega)).mpr z))
      obtain ⟨r2, rfl⟩ : ∃ r2, r = r2 + 1 := ⟨r - 1, by omega⟩
      rw [rwF] at hp
      refine r_getsN dX7_readsWord_14 (fun U h => h.2.1) k_allZ rfl ?_
      refine r_iload_n (q := 18) dX7_readsWord_17 rfl rfl rfl ?_
      refine r_tq dX7_readsWord_18 k_all (vp_in_nI hi9 (by decide)) rfl ?_
      rw [nI_cl (by omega)]
      refine r_getk dX7_readsWord_19 g_X7_readsWord_57 (k_wrd hi9) rfl ?_
      refine r_astore (q := 24) dX7_readsWord_22 (Nat.le_of_ble_eq_true rfl) (xone_of rfl) rfl ?_
      refine r_aload_n (q := 25) dX7_readsWord_24 rfl rfl rfl ?_
      refine r_aload (q := 27) dX7_readsWord_25 rfl rfl ?_
      refine r_callV (q := 30) (ci := 9) (As := [_]) dX7_readsWord_27 s_X7_readsWord_61 tx_s rfl rfl rfl (Nat.le_of_ble_eq_true rfl) rfl rfl rfl (Nat.le_of_ble_eq_true rfl) (Nat.le_of_ble_eq_true rfl) ⟨(Nat.le_of_ble_eq_true rfl), (Nat.le_of_ble_eq_true rfl)⟩ rfl ?_
      refine ct_X7_fittingSigns hf (k_wi _ hi9) ?_
      show WF _ E Po _ _ _ _ _ _ _
      refine r_istore (q := 32) dX7_readsWord_30 (Nat.le_of_ble_eq_true rfl) (xone_of rfl) rfl ?_
      refine r_iload_n (q := 33) dX7_readsWord_32 rfl rfl rfl ?_
      refine r_iload (q := 35) dX7_readsWord_33 rfl rfl ?_
      refine r_mmax (q := 38) dX7_readsWord_35 p_X7_readsWord_65 (Nat.le_of_ble_eq_true rfl) rfl (Nat.le_of_ble_eq_true rfl) (Nat.le_of_ble_eq_true rfl) ?_
      refine r_istore_n (q := 39) dX7_readsWord_38 rfl (Nat.le_of_ble_eq_true rfl) (xone_of rfl) rfl ?_
      refine r_iload (q := 41) dX7_readsWord_39 rfl rfl ?_
      refine r_aload (q := 43) dX7_readsWord_41 rfl rfl ?_
      refine r_callK (q := 46) (As := []) dX7_readsWord_43 s_X7_readsWord_71 (k_so (k_wi _ hi9)) rfl rfl (Nat.le_of_ble_eq_true rfl) rfl rfl rfl (Nat.le_of_ble_eq_true rfl) (Nat.le_of_ble_eq_true rfl) ⟨(Nat.le_of_ble_eq_true rfl), (Nat.le_of_ble_eq_true rfl)⟩ rfl ?_
      refine ct_J0_length_8abf5 (k_wi _ hi9) ?_
      show WF _ E Po _ _ _ _ _ _ _
      refine r_icmp_ne (q := 60) (q2 := 49) dX7_readsWord_46 (by decide) rfl (fun h46 => ?_) (fun h46 => ?_)
      · rw [if_neg h46] at hp
        refine r_iinc (q := 63) dX7_readsWord_60 rfl (Nat.le_of_ble_eq_true rfl) (xone_of rfl) rfl ?_
        rw [show nI i + Int32.ofInt 1 = nI (i + 1) from nI_1 i]
        refine r_goto (q := 6) dX7_readsWord_63 (by decide) ?_
        exact ih (i + 1) r2 _ _ _ _ _ (by omega) (by first | exact hh | rfl) hp (by omega)
      · rw [if_pos h46] at hp
        refine r_aload_n (q := 50) dX7_readsWord_49 rfl rfl rfl ?_
        refine r_getsN dX7_readsWord_50 (fun U h => h.2.1) k_allZ rfl ?_
        refine r_iload_n (q := 54) dX7_readsWord_53 rfl rfl rfl ?_
        refine r_tq dX7_readsWord_54 k_all (vp_in_nI hi9 (by decide)) rfl ?_
        rw [nI_cl (by omega)]
        refine r_putfield (q := 58) dX7_readsWord_55 f_X7_readsWord_26 tx_s rfl rfl (Nat.le_of_ble_eq_true rfl) rfl ?_
        refine WF.cw (tx_pm) ?_
        refine r_iconst (q := 59) (v := 1) dX7_readsWord_58 rfl rfl ?_
        refine r_istore_n (q := 60) dX7_readsWord_59 rfl (Nat.le_of_ble_eq_true rfl) (xone_of rfl) rfl ?_
        refine r_iinc (q := 63) dX7_readsWord_60 rfl (Nat.le_of_ble_eq_true rfl) (xone_of rfl) rfl ?_
        rw [show nI i + Int32.ofInt 1 = nI (i + 1) from nI_1 i]
        refine r_goto (q := 6) dX7_readsWord_63 (by decide) ?_
        exact ih (i + 1) r2 _ _ _ _ _ (by omega) (by first | exact hh | rfl) hp (by omega)
set_option maxRecDepth 100000 in
set_option maxHeartbeats 4000000 in
theorem ct_X7_readsWord {E : xE} {Po : xPo} {w : xW} {t m : Nat} {c f : Nat → Int32} (hf : w.1 (t + 1) = some (sgnE E f)) (hp : Po (.inl (some (.int (rwS f (c 0) (c 1) m).2.1))) (tx E w t (upd c 1 (c 1 + (rwS f (c 0) (c 1) m).1)) (rwS f (c 0) (c 1) m).2.2)) : Ct M_X7_readsWord E [.ref t] (tx E w t c m) Po := by
  refine Ct.of (ws2 := xAll) (L := [some (.ref t), none, none, none, none, none]) (by decide +kernel) rfl rfl (List.forall_mem_cons.mpr ⟨rfl, fun _ h => absurd h List.not_mem_nil⟩) (Nat.le_of_ble_eq_true rfl) rfl ?_
  refine r_iconst (q := 1) (v := 0) dX7_readsWord_0 rfl rfl ?_
  refine r_istore_n (q := 2) dX7_readsWord_1 rfl (Nat.le_of_ble_eq_true rfl) (xone_of rfl) rfl ?_
  refine r_iconst (q := 3) (v := 0) dX7_readsWord_2 rfl rfl ?_
  refine r_istore_n (q := 4) dX7_readsWord_3 rfl (Nat.le_of_ble_eq_true rfl) (xone_of rfl) rfl ?_
  refine r_iconst (q := 5) (v := 0) dX7_readsWord_4 rfl rfl ?_
  refine r_istore_n (q := 6) dX7_readsWord_5 rfl (Nat.le_of_ble_eq_true rfl) (xone_of rfl) rfl ?_
  exact lp_X7_word hf 10 0 9 _ _ _ _ _ (by omega) rfl hp (by omega)
