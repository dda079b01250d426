/-! ===== 68.ahead: who bathes when, forecast and seen (rows laid by wip/p39/gen/make68.py) ===== -/
/-- an object of the law's own is written -/
theorem FO.put {E : xE} {u : xW} {x a : Nat} {h : xHi} {e e2 : va_E} (O : FO u x h a e) (H : HI E u x h) : HI E (xset u a e2) x h ∧ FO (xset u a e2) x h a e2 :=
  ⟨H.ag (fun q hq => xset_o (fun z => O.2.1 (by rw [← z]; exact hq))) (Nat.le_refl _), xset_s, O.2.1, O.2.2⟩
theorem FX.put {w u : xW} {x a : Nat} {h h2 : xHi} {e2 : va_E} (X : FX w u x h h2) (ha : w.2 ≤ a) : FX w (xset u a e2) x h h2 :=
  ⟨⟨X.1.1, fun q hq hl => (xset_o (show q ≠ a by omega)).trans (X.1.2 q hq hl)⟩, X.2⟩
theorem HI.add {E : xE} {u : xW} {x : Nat} {h : xHi} {e : va_E} (H : HI E u x h) : HI E (xadd u e) x h ∧ FX u (xadd u e) x h h ∧ FO (xadd u e) x h u.2 e := by
  have h1 := H.2.2.2.2.2.2.1
  have h2 := H.2.2.2.2.2.2.2
  have no : ∀ q, HF x h q → q < u.2 := fun q hq => by
    rcases hq with z | z
    · omega
    · rw [z]; exact h1
  exact ⟨H.ag (fun q hq => xadd_o (Nat.ne_of_lt (no q hq))) (Nat.le_succ _), ⟨⟨Nat.le_succ _, fun q _ hl => xadd_o (Nat.ne_of_lt hl)⟩, Or.inl rfl⟩, xadd_s, fun z => Nat.lt_irrefl _ (no _ z), Nat.lt_succ_self _⟩
theorem ag_eq {c e : xCo} (h : EQ9 c e) : AG c e := ⟨⟨h.1 4 (by decide), h.1 5 (by decide), h.1 8 (by decide), h.1 9 (by decide)⟩, fun u hu k _ _ => by rw [h.2.2.1 u hu], fun j hj => by rw [h.2.1 j hj], fun D j hj => by rw [h.2.1 j hj]; exact D j hj⟩
/-- what can be undone is counted -/
def CN (h : xHi) : Prop := ∃ n, n ≤ 8 ∧ h.2.1.2 = nI n
theorem cn_k {h : xHi} {c : xCo} (C : CN h) : ∃ n, n + 1 ≤ 8 ∧ (hK (upS (hN h) 0 c)).2.1.2 = nI (n + 1) := by
  obtain ⟨n, hn, en⟩ := C
  have e : (hK (upS (hN h) 0 c)).2.1.2 = if h.2.1.2 + 1 < 8 then h.2.1.2 + 1 else 8 := rfl
  rw [e, en, nI_1]
  by_cases q : n + 1 < 8
  · rw [if_pos (show nI (n + 1) < 8 from nI_lt (b := 8) q (by decide))]
    exact ⟨n, by omega, rfl⟩
  · rw [if_neg (show ¬ nI (n + 1) < 8 from fun z => q ((nI_ltI (b := 8) (by omega) (by decide)).mp z))]
    exact ⟨7, by omega, rfl⟩
theorem la_pass {E : xE} {Po : xPo} {w : xW} {x K y : Nat} {h : xHi} (J : J9 K (h.1 0)) (hK9 : K + 240 < 16000000) (h1 : 1 ≤ y) (h2 : y ≤ 48) (H : HI E w x h) (hp : ∀ u, HI E u x (hK (upS (hN h) 0 (hoursS y (h.1 0)))) → FX w u x h (hK (upS (hN h) 0 (hoursS y (h.1 0)))) → Po (.inl (some (.int ((hoursS y (h.1 0)).1 9 - (h.1 0).1 9)))) u) : Ct M_L_pass E [.ref x, .int (nI y)] w Po := by
  have y1 : ¬ nI y < 1 := nI_nlt (b := 1) h1 (by omega)
  have y2 : nI y ≤ 48 := nI_le (b := 48) h2 (by decide)
  have e := pass_in (c := h.1 0) h1 h2
  have tg : (mPass (h.1 0) (nI y)).1 = 0 := by unfold mPass; rw [if_neg (fun q => q.elim y1 (fun q => Int32.not_le.mpr q y2))]
  rcases (sim_pass R9.rfl9 J hK9 : OK9 K (h.1 0) (h.1 0) (passS (h.1 0) (nI y)) (mPass (h.1 0) (nI y))) with ⟨o1, o2, ⟨v, hv, ev⟩, -, o4⟩ | ⟨o1, -⟩ | ⟨o1, -⟩ | ⟨o1, -⟩
  · refine ct_L_pass 0 (nI v) (fun g => g = hK (upS (hN h) 0 (passS (h.1 0) (nI y)).2)) H (by decide) (fun _ e => by rw [e]; rfl) (fun Po q => ct_X9_pass H J.inC (hS_ok hv ev (fun u Hu fu => q u _ rfl Hu fu))) (fun u h2 e2 Hu fu => ?_)
    subst e2
    have hq := hp u
    rw [e] at Hu fu ev
    rw [show (hoursS y (h.1 0)).1 9 - (h.1 0).1 9 = nI v from ev] at hq
    exact hq Hu fu
  · rw [tg] at o1; exact absurd o1 (by decide)
  · rw [tg] at o1; exact absurd o1 (by decide)
  · rw [tg] at o1; exact absurd o1 (by decide)
theorem lbath_no {K : Nat} {c d : xCo} {x : Int32} (J : J9 K c) (h : ¬ AW c x) : lBath c d x (n2 c) = -13 := if_pos ((aw_iff J).mpr h)
theorem hour_n : ∀ (n : Nat) (c : xCo), (hoursS n c).1 0 = c.1 0 + nI n
  | 0, c => (Int32.add_zero _).symm
  | n + 1, c => by
    rw [hours_s]
    have e : (hourS (hoursS n c)).1 0 = (hoursS n c).1 0 + 1 := by
      unfold hourS
      rw [hrsT_1 (by decide)]
      exact cS_s
    rw [e, hour_n n c, Int32.add_assoc, show nI n + (1 : Int32) = nI (n + 1) from nI_1 n]
set_option maxRecDepth 100000 in
set_option maxHeartbeats 4000000 in
theorem ah_1 {E : xE} {Po : xPo} {w0 w9 : xW} {x K m a ca : Nat} {h9 : xHi} {c0 : xCo} (ha : w9.2 ≤ a) (hm : m ≤ 60) (hK9 : K + 1000 < 16000000) (hca : ca ≤ 60) (kx : ∀ (w : xW) (h : xHi) (k n : Nat) (f : Nat → Int32) (J : J9 K (h.1 0)) (G : GQ m (h.1 0)) (C : CN h) (H : HI E w x h) (X : FX w9 w x h9 h) (O : FO w x h a (.inl (E.1.2 0, 64, .inl f))) (ec : (h.1 0).1 8 = nI ca) (e0 : EQ9 c0 (h.1 0)) (o4 o5 o6 o7 o8 : Option Value), InP (h.1 0) f ca → k ≤ 70 → n ≤ 470 → WF M_L_ahead E Po w0 39 [some (.ref x), some (.int (nI ca)), some (.ref a), some (.int (nI ca)), o4, o5, o6, o7, o8] [] w k n) : ∀ (z g : Nat) (w : xW) (h : xHi) (k n : Nat) (f : Nat → Int32) (J : J9 K (h.1 0)) (G : GQ m (h.1 0)) (C : CN h) (H : HI E w x h) (X : FX w9 w x h9 h) (O : FO w x h a (.inl (E.1.2 0, 64, .inl f))) (ec : (h.1 0).1 8 = nI ca) (e0 : EQ9 c0 (h.1 0)) (o4 o5 o6 o7 o8 : Option Value) (hz : g + z = ca) (P : InP (h.1 0) f g) (hk : k ≤ 2 + g) (hn : n ≤ 70 + 6 * g), WF M_L_ahead E Po w0 14 [some (.ref x), some (.int (nI ca)), some (.ref a), some (.int (nI g)), o4, o5, o6, o7, o8] [] w k n := by
  intro z
  induction z with
  | zero =>
    intro g w h k n f J G C H X O ec e0 o4 o5 o6 o7 o8 hz P hk hn
    obtain rfl : g = ca := by omega
    refine r_iload_n (q := 15) dL_ahead_14 rfl rfl rfl ?_
    refine r_iload_n (q := 16) dL_ahead_15 rfl rfl rfl ?_
    refine r_icmp_ge (q := 39) (q2 := 19) dL_ahead_16 (by decide) rfl (fun _ => ?_) (fun h9 => absurd (Int32.le_refl _) h9)
    exact kx _ h (k) (n) f J G C H X O ec e0 _ _ _ _ _ P (by omega) (by omega)
  | succ z ih =>
    intro g w h k n f J G C H X O ec e0 o4 o5 o6 o7 o8 hz P hk hn
    refine r_iload_n (q := 15) dL_ahead_14 rfl rfl rfl ?_
    refine r_iload_n (q := 16) dL_ahead_15 rfl rfl rfl ?_
    refine r_icmp_ge (q := 39) (q2 := 19) dL_ahead_16 (by decide) rfl (fun h9 => absurd h9 (nI_ge (show g < ca by omega) (by omega))) (fun _ => ?_)
    refine r_iload_n (q := 20) dL_ahead_19 rfl rfl rfl ?_
    refine r_bipush (q := 22) (v := 64) dL_ahead_20 (by decide) rfl ?_
    refine r_icmp_ge (q := 39) (q2 := 25) dL_ahead_22 (by decide) rfl (fun h9 => absurd h9 (nI_ge (b := 64) (show g < 64 by omega) (by decide))) (fun _ => ?_)
    refine r_aload_n (q := 26) dL_ahead_25 rfl rfl rfl ?_
    refine r_iload_n (q := 27) dL_ahead_26 rfl rfl rfl ?_
    refine r_aload_n (q := 28) dL_ahead_27 rfl rfl rfl ?_
    refine r_iload_n (q := 29) dL_ahead_28 rfl rfl rfl ?_
    refine r_callSH (q := 32) (k2 := k + 1) (n2 := n + 6) (As := [_, _]) dL_ahead_29 s_L_ahead_254 rfl rfl (Nat.le_of_ble_eq_true rfl) rfl rfl rfl (show k + 1 ≤ 12000 by omega) (show n + 6 ≤ 80000 by omega) ⟨(show k + 1 ≤ 12000 by omega), (show n + 6 ≤ 80000 by omega)⟩ rfl ?_
    refine la_bathesIn H (fun c => inC c ∧ n2 (h.1 0) ≤ 5 ∧ c.1 2 = nI (n2 (h.1 0))) (fun c hc => inv_c hc) J.inC J.1.2.1.2 J.1.2.1.1 ⟨J.inC.cp, J.1.2.1.2, J.1.2.1.1⟩ (fun u1 h1 hh1 H1 F1 => ?_)
    obtain ⟨c1, rfl⟩ := hh1
    show WF _ E Po _ _ _ _ _ _ _
    have X1 := X.tr F1
    have O1 := O.fx F1
    refine r_iastore (q := 33) dL_ahead_32 O1.1 (vp_in_nI (show g < 64 by omega) (by decide)) rfl ?_
    rw [nI_cl (by omega)]
    have X2 := X1.put (e2 := .inl (E.1.2 0, 64, .inl (upd f g (lBath (h.1 0) (cpS (h.1 1) (h.1 0)) (nI g) (n2 (h.1 0)))))) ha
    obtain ⟨H2, O2⟩ := O1.put (e2 := .inl (E.1.2 0, 64, .inl (upd f g (lBath (h.1 0) (cpS (h.1 1) (h.1 0)) (nI g) (n2 (h.1 0)))))) H1
    refine r_iinc (q := 36) dL_ahead_33 rfl (Nat.le_of_ble_eq_true rfl) (xone_of rfl) rfl ?_
    rw [show nI g + Int32.ofInt 1 = nI (g + 1) from nI_1 g]
    refine r_goto (q := 14) dL_ahead_36 (by decide) ?_
    refine ih (g + 1) _ (upS h 1 c1) (k + 1) (n + 6) _ J G C H2 X2 O2 ec e0 _ _ _ _ _ (by omega) (fun q hq y y1 y2 => ?_) (by omega) (by omega)
    by_cases e : q = g
    · subst e
      rw [upd_s]
      exact bath_spec J G (by omega) eq_cp (by omega) y y1 y2
    · rw [upd_o e]
      exact P q (by omega) y y1 y2
set_option maxRecDepth 100000 in
set_option maxHeartbeats 4000000 in
theorem ah_2 {E : xE} {Po : xPo} {w0 w9 : xW} {x K m a ca : Nat} {h9 : xHi} {c0 : xCo} (ha : w9.2 ≤ a) (hm : m ≤ 60) (hK9 : K + 1000 < 16000000) (hca : ca ≤ 60) (w : xW) (h : xHi) (k n : Nat) (f : Nat → Int32) (J : J9 K (h.1 0)) (G : GQ m (h.1 0)) (C : CN h) (H : HI E w x h) (X : FX w9 w x h9 h) (O : FO w x h a (.inl (E.1.2 0, 64, .inl f))) (ec : (h.1 0).1 8 = nI ca) (e0 : EQ9 c0 (h.1 0)) {o3 o4 o5 o6 o7 o8 : Option Value} (P : InP (h.1 0) f ca) (hk : k ≤ 70) (hn : n ≤ 470) (kx : ∀ (w : xW) (h : xHi) (k n : Nat) (f : Nat → Int32) (J : J9 K (h.1 0)) (G : GQ m (h.1 0)) (C : CN h) (H : HI E w x h) (X : FX w9 w x h9 h) (O : FO w x h a (.inl (E.1.2 0, 64, .inl f))) (ec : (h.1 0).1 8 = nI ca) (e0 : EQ9 c0 (h.1 0)) (o4 o5 o6 o7 o8 : Option Value), InP (h.1 0) f ca → k ≤ 75 → n ≤ 500 → WF M_L_ahead E Po w0 63 [some (.ref x), some (.int (nI ca)), some (.ref a), some (.int (nI (1 + 3 * 0))), o4, o5, o6, o7, o8] [] w k n) : WF M_L_ahead E Po w0 39 [some (.ref x), some (.int (nI ca)), some (.ref a), o3, o4, o5, o6, o7, o8] [] w k n := by
  refine r_aload_n (q := 40) dL_ahead_39 rfl rfl rfl ?_
  refine r_iload_n (q := 41) dL_ahead_40 rfl rfl rfl ?_
  refine r_callSH (q := 44) (k2 := k + 1) (n2 := n + 6) (As := [_, _]) dL_ahead_41 s_L_ahead_254 rfl rfl (Nat.le_of_ble_eq_true rfl) rfl rfl rfl (show k + 1 ≤ 12000 by omega) (show n + 6 ≤ 80000 by omega) ⟨(show k + 1 ≤ 12000 by omega), (show n + 6 ≤ 80000 by omega)⟩ rfl ?_
  refine la_bathesIn H (fun c => inC c ∧ n2 (h.1 0) ≤ 5 ∧ c.1 2 = nI (n2 (h.1 0))) (fun c hc => inv_c hc) J.inC J.1.2.1.2 J.1.2.1.1 ⟨J.inC.cp, J.1.2.1.2, J.1.2.1.1⟩ (fun u1 h1 hh1 H1 F1 => ?_)
  obtain ⟨c1, rfl⟩ := hh1
  show WF _ E Po _ _ _ _ _ _ _
  have X1 := X.tr F1
  have O1 := O.fx F1
  rw [lbath_no J (show ¬ AW (h.1 0) (nI ca) from fun z => by
    obtain ⟨g, e1, e2, e3, e4⟩ := aw_came J G (by omega) z
    have := nI_inj (by omega) (by omega) e1
    have := e4 ca ec (by omega)
    omega)]
  refine r_bipush (q := 46) (v := (-13)) dL_ahead_44 (by decide) rfl ?_
  refine r_icmp_ne (q := 59) (q2 := 49) dL_ahead_46 (by decide) rfl (fun h9 => absurd rfl h9) (fun _ => ?_)
  refine r_aload_n (q := 50) dL_ahead_49 rfl rfl rfl ?_
  refine r_iconst (q := 51) (v := (-1)) dL_ahead_50 rfl rfl ?_
  refine r_callSH (q := 54) (k2 := k + 2) (n2 := n + 12) (As := [_, _]) dL_ahead_51 s_L_ahead_254 rfl rfl (Nat.le_of_ble_eq_true rfl) rfl rfl rfl (show k + 2 ≤ 12000 by omega) (show n + 12 ≤ 80000 by omega) ⟨(show k + 2 ≤ 12000 by omega), (show n + 12 ≤ 80000 by omega)⟩ rfl ?_
  have J1 : J9 K ((upS h 1 c1).1 0) := J
  have G1 : GQ m ((upS h 1 c1).1 0) := G
  refine la_bathesIn H1 (fun c => inC c ∧ n2 ((upS h 1 c1).1 0) ≤ 5 ∧ c.1 2 = nI (n2 ((upS h 1 c1).1 0))) (fun c hc => inv_c hc) J1.inC J1.1.2.1.2 J1.1.2.1.1 ⟨J1.inC.cp, J1.1.2.1.2, J1.1.2.1.1⟩ (fun u2 h2 hh2 H2 F2 => ?_)
  obtain ⟨c2, rfl⟩ := hh2
  show WF _ E Po _ _ _ _ _ _ _
  have X2 := X1.tr F2
  have O2 := O1.fx F2
  rw [lbath_no J1 (show ¬ AW ((upS h 1 c1).1 0) (-1) from fun z => by
    obtain ⟨g, e1, e2, e3, e4⟩ := aw_came J1 G1 (by omega) z
    exact nI_m1 (by omega) e1.symm)]
  refine r_bipush (q := 56) (v := (-13)) dL_ahead_54 (by decide) rfl ?_
  refine r_icmp_eq (q := 61) (q2 := 59) dL_ahead_56 (by decide) rfl (fun _ => ?_) (fun h9 => absurd rfl h9)
  refine r_iconst (q := 62) (v := 1) dL_ahead_61 rfl rfl ?_
  refine r_istore_n (q := 63) dL_ahead_62 rfl (Nat.le_of_ble_eq_true rfl) (xone_of rfl) rfl ?_
  exact kx _ (upS (upS h 1 c1) 1 c2) (k + 2) (n + 12) f J G C H2 X2 O2 ec e0 _ _ _ _ _ P (by omega) (by omega)
set_option maxRecDepth 100000 in
set_option maxHeartbeats 4000000 in
theorem ah_5 {E : xE} {Po : xPo} {w0 w : xW} {x a ca y g k n : Nat} {f : Nat → Int32} {v : Int32} {o6 o7 o8 : Option Value} (ev : v = nI (dueN f y g)) (kx : WF M_L_ahead E Po w0 75 [some (.ref x), some (.int (nI ca)), some (.ref a), some (.int (nI y)), some (.int (nI (sN (dueN f y) (g + 1)))), some (.int (nI (g + 1))), o6, o7, o8] [] w k n) : WF M_L_ahead E Po w0 110 [some (.ref x), some (.int (nI ca)), some (.ref a), some (.int (nI y)), some (.int (nI (sN (dueN f y) g))), some (.int (nI g)), o6, o7, o8] [.int v, .int (nI (sN (dueN f y) g))] w k n := by
  subst ev
  refine r_iadd (q := 111) dL_ahead_110 rfl ?_
  rw [show nI (sN (dueN f y) g) + nI (dueN f y g) = nI (sN (dueN f y) (g + 1)) from nI_add _ _]
  refine r_istore (q := 113) dL_ahead_111 (Nat.le_of_ble_eq_true rfl) (xone_of rfl) rfl ?_
  refine r_iinc (q := 116) dL_ahead_113 rfl (Nat.le_of_ble_eq_true rfl) (xone_of rfl) rfl ?_
  rw [show nI g + Int32.ofInt 1 = nI (g + 1) from nI_1 g]
  refine r_goto (q := 75) dL_ahead_116 (by decide) ?_
  exact kx
set_option maxRecDepth 100000 in
set_option maxHeartbeats 4000000 in
theorem ah_4 {E : xE} {Po : xPo} {w0 w : xW} {x a ca y k n : Nat} {h : xHi} {f : Nat → Int32} {o6 o7 o8 : Option Value} (hca : ca ≤ 60) (O : FO w x h a (.inl (E.1.2 0, 64, .inl f))) (kx : WF M_L_ahead E Po w0 119 [some (.ref x), some (.int (nI ca)), some (.ref a), some (.int (nI y)), some (.int (nI (sN (dueN f y) ca))), some (.int (nI ca)), o6, o7, o8] [] w k n) : ∀ (z g : Nat) (hz : g + z = ca), WF M_L_ahead E Po w0 75 [some (.ref x), some (.int (nI ca)), some (.ref a), some (.int (nI y)), some (.int (nI (sN (dueN f y) g))), some (.int (nI g)), o6, o7, o8] [] w k n := by
  intro z
  induction z with
  | zero =>
    intro g hz
    obtain rfl : g = ca := by omega
    refine r_iload (q := 77) dL_ahead_75 rfl rfl ?_
    refine r_iload_n (q := 78) dL_ahead_77 rfl rfl rfl ?_
    refine r_icmp_ge (q := 119) (q2 := 81) dL_ahead_78 (by decide) rfl (fun _ => ?_) (fun h9 => absurd (Int32.le_refl _) h9)
    exact kx
  | succ z ih =>
    intro g hz
    refine r_iload (q := 77) dL_ahead_75 rfl rfl ?_
    refine r_iload_n (q := 78) dL_ahead_77 rfl rfl rfl ?_
    refine r_icmp_ge (q := 119) (q2 := 81) dL_ahead_78 (by decide) rfl (fun h9 => absurd h9 (nI_ge (show g < ca by omega) (by omega))) (fun _ => ?_)
    refine r_iload (q := 83) dL_ahead_81 rfl rfl ?_
    refine r_bipush (q := 85) (v := 64) dL_ahead_83 (by decide) rfl ?_
    refine r_icmp_ge (q := 119) (q2 := 88) dL_ahead_85 (by decide) rfl (fun h9 => absurd h9 (nI_ge (b := 64) (show g < 64 by omega) (by decide))) (fun _ => ?_)
    refine r_iload (q := 90) dL_ahead_88 rfl rfl ?_
    refine r_aload_n (q := 91) dL_ahead_90 rfl rfl rfl ?_
    refine r_iload (q := 93) dL_ahead_91 rfl rfl ?_
    refine r_iaload (q := 94) dL_ahead_93 O.1 (vp_in_nI (show g < 64 by omega) (by decide)) rfl ?_
    rw [nI_cl (by omega)]
    refine r_if_le (q := 109) (q2 := 97) dL_ahead_94 (by decide) rfl (fun q1 => ?_) (fun q1 => ?_)
    · refine r_iconst (q := 110) (v := 0) dL_ahead_109 rfl rfl ?_
      first
        | exact ah_5 (show (0 : Int32) = nI (dueN f y g) by unfold dueN; rw [if_pos q1]; rfl) (ih (g + 1) (by omega))
        | exact ah_5 (show (0 : Int32) = nI (dueN f y g) by unfold dueN; rw [if_neg q1, if_neg (Int32.not_le.mpr q2)]; rfl) (ih (g + 1) (by omega))
        | exact ah_5 (show (1 : Int32) = nI (dueN f y g) by unfold dueN; rw [if_neg q1, if_pos (Int32.not_lt.mp q2)]; rfl) (ih (g + 1) (by omega))
    · refine r_aload_n (q := 98) dL_ahead_97 rfl rfl rfl ?_
      refine r_iload (q := 100) dL_ahead_98 rfl rfl ?_
      refine r_iaload (q := 101) dL_ahead_100 O.1 (vp_in_nI (show g < 64 by omega) (by decide)) rfl ?_
      rw [nI_cl (by omega)]
      refine r_iload_n (q := 102) dL_ahead_101 rfl rfl rfl ?_
      refine r_icmp_gt (q := 109) (q2 := 105) dL_ahead_102 (by decide) rfl (fun q2 => ?_) (fun q2 => ?_)
      · refine r_iconst (q := 110) (v := 0) dL_ahead_109 rfl rfl ?_
        first
          | exact ah_5 (show (0 : Int32) = nI (dueN f y g) by unfold dueN; rw [if_pos q1]; rfl) (ih (g + 1) (by omega))
          | exact ah_5 (show (0 : Int32) = nI (dueN f y g) by unfold dueN; rw [if_neg q1, if_neg (Int32.not_le.mpr q2)]; rfl) (ih (g + 1) (by omega))
          | exact ah_5 (show (1 : Int32) = nI (dueN f y g) by unfold dueN; rw [if_neg q1, if_pos (Int32.not_lt.mp q2)]; rfl) (ih (g + 1) (by omega))
      · refine r_iconst (q := 106) (v := 1) dL_ahead_105 rfl rfl ?_
        refine r_goto (q := 110) dL_ahead_106 (by decide) ?_
        first
          | exact ah_5 (show (0 : Int32) = nI (dueN f y g) by unfold dueN; rw [if_pos q1]; rfl) (ih (g + 1) (by omega))
          | exact ah_5 (show (0 : Int32) = nI (dueN f y g) by unfold dueN; rw [if_neg q1, if_neg (Int32.not_le.mpr q2)]; rfl) (ih (g + 1) (by omega))
          | exact ah_5 (show (1 : Int32) = nI (dueN f y g) by unfold dueN; rw [if_neg q1, if_pos (Int32.not_lt.mp q2)]; rfl) (ih (g + 1) (by omega))
set_option maxRecDepth 100000 in
set_option maxHeartbeats 4000000 in
theorem ah_8 {E : xE} {Po : xPo} {w0 w9 : xW} {x K a ca y : Nat} {h h9 : xHi} {f : Nat → Int32} {v4 v5 : Int32} (J : J9 K (h.1 0)) (hF : ∀ v, AW (h.1 0) v → ∃ g, v = nI g ∧ g < 64 ∧ (¬ f g ≤ 0 → ¬ f g ≤ nI y)) {j A B9 : Nat} (hj : j < n2 (h.1 0)) (hA : A + 14 ≤ 11000) (hB : B9 + 84 ≤ 79000) (kx : ∀ (w : xW) (k n : Nat) (o8 : Option Value), HI E w x h → FX w9 w x h9 h → FO w x h a (.inl (E.1.2 0, 64, .inl f)) → k ≤ A + 13 → n ≤ B9 + 78 → WF M_L_ahead E Po w0 218 [some (.ref x), some (.int (nI ca)), some (.ref a), some (.int (nI y)), some (.int v4), some (.int v5), some (.int (nI j)), some (.int (nI (wt (h.1 0) j))), o8] [] w k n) : ∀ (z p : Nat) (w : xW) (k n : Nat) (o8 : Option Value) (H : HI E w x h) (X : FX w9 w x h9 h) (O : FO w x h a (.inl (E.1.2 0, 64, .inl f))) (hz : p + z = wt (h.1 0) j) (hk : k ≤ A + 2 * p) (hn : n ≤ B9 + 12 * p), WF M_L_ahead E Po w0 173 [some (.ref x), some (.int (nI ca)), some (.ref a), some (.int (nI y)), some (.int v4), some (.int v5), some (.int (nI j)), some (.int (nI p)), o8] [] w k n := by
  intro z
  induction z with
  | zero =>
    intro p w k n o8 H X O hz hk hn
    have n5 := J.1.2.1.2
    obtain ⟨w1, w2⟩ := J.wtq (u := j) (by omega)
    obtain rfl : p = wt (h.1 0) j := by omega
    refine r_iload (q := 175) dL_ahead_173 rfl rfl ?_
    refine r_aload_n (q := 176) dL_ahead_175 rfl rfl rfl ?_
    refine r_iload (q := 178) dL_ahead_176 rfl rfl ?_
    refine r_iconst (q := 179) (v := 3) dL_ahead_178 rfl rfl ?_
    refine r_callSH (q := 182) (k2 := k + 1) (n2 := n + 6) (As := [_, _, _]) dL_ahead_179 s_L_ahead_189 rfl rfl (Nat.le_of_ble_eq_true rfl) rfl rfl rfl (show k + 1 ≤ 12000 by omega) (show n + 6 ≤ 80000 by omega) ⟨(show k + 1 ≤ 12000 by omega), (show n + 6 ≤ 80000 by omega)⟩ rfl ?_
    refine la_tentOf H (fun u1 H1 F1 => ?_)
    show WF _ E Po _ _ _ _ _ _ _
    have X1 := X.tr F1
    have O1 := O.fx F1
    rw [(au_3 J hj).trans w1]
    refine r_icmp_ge (q := 218) (q2 := 185) dL_ahead_182 (by decide) rfl (fun _ => ?_) (fun h9 => absurd (Int32.le_refl _) h9)
    exact kx _ (k + 1) (n + 6) _ H1 X1 O1 (by omega) (by omega)
  | succ z ih =>
    intro p w k n o8 H X O hz hk hn
    have n5 := J.1.2.1.2
    obtain ⟨w1, w2⟩ := J.wtq (u := j) (by omega)
    obtain ⟨g, eg, hg, hfg⟩ := hF ((h.1 0).2.2.1 j (5 + p)) ⟨j, p, hj, by omega, rfl⟩
    have ew : lWaiting (h.1 0) (nI j) (nI p) = nI g := by
      have e1 : gAtS ((h.1 0).2.2.1 j) (nI p) = nI g := (gat_in w2 w1 (show p < wt (h.1 0) j by omega)).trans eg
      unfold lWaiting
      rw [if_pos (okU_in J hj), nI_cl (by omega), e1, if_pos (nI_pos' (by omega))]
    refine r_iload (q := 175) dL_ahead_173 rfl rfl ?_
    refine r_aload_n (q := 176) dL_ahead_175 rfl rfl rfl ?_
    refine r_iload (q := 178) dL_ahead_176 rfl rfl ?_
    refine r_iconst (q := 179) (v := 3) dL_ahead_178 rfl rfl ?_
    refine r_callSH (q := 182) (k2 := k + 1) (n2 := n + 6) (As := [_, _, _]) dL_ahead_179 s_L_ahead_189 rfl rfl (Nat.le_of_ble_eq_true rfl) rfl rfl rfl (show k + 1 ≤ 12000 by omega) (show n + 6 ≤ 80000 by omega) ⟨(show k + 1 ≤ 12000 by omega), (show n + 6 ≤ 80000 by omega)⟩ rfl ?_
    refine la_tentOf H (fun u1 H1 F1 => ?_)
    show WF _ E Po _ _ _ _ _ _ _
    have X1 := X.tr F1
    have O1 := O.fx F1
    rw [(au_3 J hj).trans w1]
    refine r_icmp_ge (q := 218) (q2 := 185) dL_ahead_182 (by decide) rfl (fun h9 => absurd h9 (nI_ge (show p < wt (h.1 0) j by omega) (by omega))) (fun _ => ?_)
    refine r_aload_n (q := 186) dL_ahead_185 rfl rfl rfl ?_
    refine r_iload (q := 188) dL_ahead_186 rfl rfl ?_
    refine r_iload (q := 190) dL_ahead_188 rfl rfl ?_
    refine r_callSH (q := 193) (k2 := k + 2) (n2 := n + 12) (As := [_, _, _]) dL_ahead_190 s_L_ahead_205 rfl rfl (Nat.le_of_ble_eq_true rfl) rfl rfl rfl (show k + 2 ≤ 12000 by omega) (show n + 12 ≤ 80000 by omega) ⟨(show k + 2 ≤ 12000 by omega), (show n + 12 ≤ 80000 by omega)⟩ rfl ?_
    refine la_waiting H1 (fun u2 H2 F2 => ?_)
    show WF _ E Po _ _ _ _ _ _ _
    have X2 := X1.tr F2
    have O2 := O1.fx F2
    rw [ew]
    refine r_istore (q := 195) dL_ahead_193 (Nat.le_of_ble_eq_true rfl) (xone_of rfl) rfl ?_
    refine r_aload_n (q := 196) dL_ahead_195 rfl rfl rfl ?_
    refine r_iload (q := 198) dL_ahead_196 rfl rfl ?_
    refine r_iaload (q := 199) dL_ahead_198 O2.1 (vp_in_nI hg (by decide)) rfl ?_
    rw [nI_cl (by omega)]
    refine r_if_le (q := 212) (q2 := 202) dL_ahead_199 (by decide) rfl (fun q1 => ?_) (fun q1 => ?_)
    · refine r_iinc (q := 215) dL_ahead_212 rfl (Nat.le_of_ble_eq_true rfl) (xone_of rfl) rfl ?_
      rw [show nI p + Int32.ofInt 1 = nI (p + 1) from nI_1 p]
      refine r_goto (q := 173) dL_ahead_215 (by decide) ?_
      exact ih (p + 1) _ (k + 2) (n + 12) _ H2 X2 O2 (by omega) (by omega) (by omega)
    · refine r_aload_n (q := 203) dL_ahead_202 rfl rfl rfl ?_
      refine r_iload (q := 205) dL_ahead_203 rfl rfl ?_
      refine r_iaload (q := 206) dL_ahead_205 O2.1 (vp_in_nI hg (by decide)) rfl ?_
      rw [nI_cl (by omega)]
      refine r_iload_n (q := 207) dL_ahead_206 rfl rfl rfl ?_
      refine r_icmp_gt (q := 212) (q2 := 210) dL_ahead_207 (by decide) rfl (fun _ => ?_) (fun h9 => absurd (Int32.not_le.mp (hfg q1)) h9)
      refine r_iinc (q := 215) dL_ahead_212 rfl (Nat.le_of_ble_eq_true rfl) (xone_of rfl) rfl ?_
      rw [show nI p + Int32.ofInt 1 = nI (p + 1) from nI_1 p]
      refine r_goto (q := 173) dL_ahead_215 (by decide) ?_
      exact ih (p + 1) _ (k + 2) (n + 12) _ H2 X2 O2 (by omega) (by omega) (by omega)
set_option maxRecDepth 100000 in
set_option maxHeartbeats 4000000 in
theorem ah_7 {E : xE} {Po : xPo} {w0 w9 : xW} {x K a ca y : Nat} {h h9 : xHi} {f : Nat → Int32} {v4 v5 : Int32} (J : J9 K (h.1 0)) (hF : ∀ v, AW (h.1 0) v → ∃ g, v = nI g ∧ g < 64 ∧ (¬ f g ≤ 0 → ¬ f g ≤ nI y)) {A B9 : Nat} (hA : A + 80 ≤ 11000) (hB : B9 + 480 ≤ 79000) (kx : ∀ (w : xW) (k n : Nat) (o7 o8 : Option Value), HI E w x h → FX w9 w x h9 h → FO w x h a (.inl (E.1.2 0, 64, .inl f)) → k ≤ A + 76 → n ≤ B9 + 456 → WF M_L_ahead E Po w0 224 [some (.ref x), some (.int (nI ca)), some (.ref a), some (.int (nI y)), some (.int v4), some (.int v5), some (.int (nI (n2 (h.1 0)))), o7, o8] [] w k n) : ∀ (z j : Nat) (w : xW) (k n : Nat) (o7 o8 : Option Value) (H : HI E w x h) (X : FX w9 w x h9 h) (O : FO w x h a (.inl (E.1.2 0, 64, .inl f))) (hz : j + z = n2 (h.1 0)) (hk : k ≤ A + 15 * j) (hn : n ≤ B9 + 90 * j), WF M_L_ahead E Po w0 160 [some (.ref x), some (.int (nI ca)), some (.ref a), some (.int (nI y)), some (.int v4), some (.int v5), some (.int (nI j)), o7, o8] [] w k n := by
  intro z
  induction z with
  | zero =>
    intro j w k n o7 o8 H X O hz hk hn
    have n5 := J.1.2.1.2
    obtain rfl : j = n2 (h.1 0) := by omega
    refine r_iload (q := 162) dL_ahead_160 rfl rfl ?_
    refine r_aload_n (q := 163) dL_ahead_162 rfl rfl rfl ?_
    refine r_iconst (q := 164) (v := 4) dL_ahead_163 rfl rfl ?_
    refine r_callV (q := 167) (ci := 11) (k2 := k + 1) (n2 := n + 6) (As := [_]) dL_ahead_164 s_L_ahead_184 H.1.1 rfl rfl rfl (Nat.le_of_ble_eq_true rfl) rfl rfl rfl (show k + 1 ≤ 12000 by omega) (show n + 6 ≤ 80000 by omega) ⟨(show k + 1 ≤ 12000 by omega), (show n + 6 ≤ 80000 by omega)⟩ rfl ?_
    refine la_number H J.inC (by decide) (by decide) (by decide) (by decide) ?_
    show WF _ E Po _ _ _ _ _ _ _
    rw [show stToldS (h.1 0) 4 = nI (n2 (h.1 0)) from J.1.2.1.1]
    refine r_icmp_ge (q := 224) (q2 := 170) dL_ahead_167 (by decide) rfl (fun _ => ?_) (fun h9 => absurd (Int32.le_refl _) h9)
    exact kx _ (k + 1) (n + 6) _ _ H X O (by omega) (by omega)
  | succ z ih =>
    intro j w k n o7 o8 H X O hz hk hn
    have n5 := J.1.2.1.2
    refine r_iload (q := 162) dL_ahead_160 rfl rfl ?_
    refine r_aload_n (q := 163) dL_ahead_162 rfl rfl rfl ?_
    refine r_iconst (q := 164) (v := 4) dL_ahead_163 rfl rfl ?_
    refine r_callV (q := 167) (ci := 11) (k2 := k + 1) (n2 := n + 6) (As := [_]) dL_ahead_164 s_L_ahead_184 H.1.1 rfl rfl rfl (Nat.le_of_ble_eq_true rfl) rfl rfl rfl (show k + 1 ≤ 12000 by omega) (show n + 6 ≤ 80000 by omega) ⟨(show k + 1 ≤ 12000 by omega), (show n + 6 ≤ 80000 by omega)⟩ rfl ?_
    refine la_number H J.inC (by decide) (by decide) (by decide) (by decide) ?_
    show WF _ E Po _ _ _ _ _ _ _
    rw [show stToldS (h.1 0) 4 = nI (n2 (h.1 0)) from J.1.2.1.1]
    refine r_icmp_ge (q := 224) (q2 := 170) dL_ahead_167 (by decide) rfl (fun h9 => absurd h9 (nI_ge (show j < n2 (h.1 0) by omega) (by omega))) (fun _ => ?_)
    refine r_iconst (q := 171) (v := 0) dL_ahead_170 rfl rfl ?_
    refine r_istore (q := 173) dL_ahead_171 (Nat.le_of_ble_eq_true rfl) (xone_of rfl) rfl ?_
    refine ah_8 (j := j) J hF (A := k + 1) (B9 := n + 6) (by omega) (by omega) (by omega) (fun w k2 n2 o8 H X O hk2 hn2 => ?_) (wt (h.1 0) j) 0 _ (k + 1) (n + 6) _ H X O (by omega) (by omega) (by omega)
    refine r_iinc (q := 221) dL_ahead_218 rfl (Nat.le_of_ble_eq_true rfl) (xone_of rfl) rfl ?_
    rw [show nI j + Int32.ofInt 1 = nI (j + 1) from nI_1 j]
    refine r_goto (q := 160) dL_ahead_221 (by decide) ?_
    exact ih (j + 1) _ (k2) (n2) _ _ H X O (by omega) (by omega) (by omega)
set_option maxRecDepth 100000 in
set_option maxHeartbeats 4000000 in
theorem ah_9 {E : xE} {Po : xPo} {w0 w9 : xW} {x K m a ca : Nat} {h9 : xHi} {c0 : xCo} (ha : w9.2 ≤ a) (hm : m ≤ 60) (hK9 : K + 1000 < 16000000) (hca : ca ≤ 60) {w : xW} {q k n nn : Nat} {h0 h : xHi} {f : Nat → Int32} {v4 : Int32} {o6 o7 o8 : Option Value} (J0 : J9 K (h0.1 0)) (G0 : GQ m (h0.1 0)) (e0 : EQ9 c0 (h0.1 0)) (ec : (h0.1 0).1 8 = nI ca) (P : InP (h0.1 0) f ca) (hq : q < 10) (hnn : nn + 1 ≤ 8) (en : h.2.1.2 = nI (nn + 1)) (eu : EQ9 (h0.1 0) (h.1 (3 + ((h.2.1.1 + 8) % 9)))) (H : HI E w x h) (X : FX w9 w x h9 h) (O : FO w x h a (.inl (E.1.2 0, 64, .inl f))) (hk : k ≤ 75 + 700 * q + 690) (hn : n ≤ 500 + 4600 * q + 4540) (kx : ∀ (w : xW) (h : xHi) (k n : Nat) (f : Nat → Int32) (J : J9 K (h.1 0)) (G : GQ m (h.1 0)) (C : CN h) (H : HI E w x h) (X : FX w9 w x h9 h) (O : FO w x h a (.inl (E.1.2 0, 64, .inl f))) (ec : (h.1 0).1 8 = nI ca) (e0 : EQ9 c0 (h.1 0)) (o4 o5 o6 o7 o8 : Option Value), InP (h.1 0) f ca → k ≤ 75 + 700 * (q + 1) → n ≤ 500 + 4600 * (q + 1) → WF M_L_ahead E Po w0 63 [some (.ref x), some (.int (nI ca)), some (.ref a), some (.int (nI (1 + 3 * (q + 1)))), o4, o5, o6, o7, o8] [] w k n) : WF M_L_ahead E Po w0 224 [some (.ref x), some (.int (nI ca)), some (.ref a), some (.int (nI (1 + 3 * q))), some (.int v4), some (.int ((h0.1 0).1 0)), o6, o7, o8] [] w k n := by
  refine r_aload_n (q := 225) dL_ahead_224 rfl rfl rfl ?_
  refine r_callSH (q := 228) (k2 := k + 1) (n2 := n + 6) (As := [_]) dL_ahead_225 s_L_ahead_256 rfl rfl (Nat.le_of_ble_eq_true rfl) rfl rfl rfl (show k + 1 ≤ 12000 by omega) (show n + 6 ≤ 80000 by omega) ⟨(show k + 1 ≤ 12000 by omega), (show n + 6 ≤ 80000 by omega)⟩ rfl ?_
  refine la_undo H hnn en (fun u1 H1 F1 => ?_)
  have X1 := X.tr F1
  have O1 := O.fx F1
  have E3 : EQ9 (h0.1 0) (cpS (h.1 0) (h.1 (3 + ((h.2.1.1 + 8) % 9)))) := eu.tr eq_cp
  have J3 := J0.eq E3
  show WF _ E Po _ _ _ _ _ _ _
  refine r_if_lt (q := 241) (q2 := 231) dL_ahead_228 (by decide) rfl (fun h9 => absurd h9 (nI_pos (by omega))) (fun _ => ?_)
  refine r_aload_n (q := 232) dL_ahead_231 rfl rfl rfl ?_
  refine r_iconst (q := 233) (v := 0) dL_ahead_232 rfl rfl ?_
  refine r_callV (q := 236) (ci := 11) (k2 := k + 2) (n2 := n + 12) (As := [_]) dL_ahead_233 s_L_ahead_184 H1.1.1 rfl rfl rfl (Nat.le_of_ble_eq_true rfl) rfl rfl rfl (show k + 2 ≤ 12000 by omega) (show n + 12 ≤ 80000 by omega) ⟨(show k + 2 ≤ 12000 by omega), (show n + 12 ≤ 80000 by omega)⟩ rfl ?_
  refine la_number H1 (show inC (cpS (h.1 0) (h.1 (3 + ((h.2.1.1 + 8) % 9)))) from J3.inC) (by decide) (by decide) (by decide) (by decide) ?_
  show WF _ E Po _ _ _ _ _ _ _
  rw [show stToldS ((upS (h.1, ((h.2.1.1 + 8) % 9, nI nn), h.2.2) 0 (cpS (h.1 0) (h.1 (3 + ((h.2.1.1 + 8) % 9))))).1 0) 0 = (h0.1 0).1 0 from E3.1 0 (by decide)]
  refine r_iload (q := 238) dL_ahead_236 rfl rfl ?_
  refine r_icmp_eq (q := 243) (q2 := 241) dL_ahead_238 (by decide) rfl (fun _ => ?_) (fun h9 => absurd rfl h9)
  refine r_iinc (q := 246) dL_ahead_243 rfl (Nat.le_of_ble_eq_true rfl) (xone_of rfl) rfl ?_
  rw [show nI (1 + 3 * q) + Int32.ofInt 3 = nI (1 + 3 * (q + 1)) from (nI_add (1 + 3 * q) 3).trans (by rw [show 1 + 3 * q + 3 = 1 + 3 * (q + 1) by omega])]
  refine r_goto (q := 63) dL_ahead_246 (by decide) ?_
  exact kx _ _ (k + 2) (n + 12) f J3 (G0.ag J0 (ag_eq E3)) ⟨nn, by omega, rfl⟩ H1 X1 O1 ((E3.1 8 (by decide)).trans ec) (e0.tr E3) _ _ _ _ _ (P.eq J0 E3 (by omega)) (by omega) (by omega)
set_option maxRecDepth 100000 in
set_option maxHeartbeats 4000000 in
theorem ah_3 {E : xE} {Po : xPo} {w0 w9 : xW} {x K m a ca : Nat} {h9 : xHi} {c0 : xCo} (ha : w9.2 ≤ a) (hm : m ≤ 60) (hK9 : K + 1000 < 16000000) (hca : ca ≤ 60) (hp : ∀ u h2, HI E u x h2 → FX w9 u x h9 h2 → EQ9 c0 (h2.1 0) → CN h2 → Po (.inl (some (.int 1))) u) : ∀ (z q : Nat) (w : xW) (h : xHi) (k n : Nat) (f : Nat → Int32) (J : J9 K (h.1 0)) (G : GQ m (h.1 0)) (C : CN h) (H : HI E w x h) (X : FX w9 w x h9 h) (O : FO w x h a (.inl (E.1.2 0, 64, .inl f))) (ec : (h.1 0).1 8 = nI ca) (e0 : EQ9 c0 (h.1 0)) (o4 o5 o6 o7 o8 : Option Value) (hz : q + z = 10) (P : InP (h.1 0) f ca) (hk : k ≤ 75 + 700 * q) (hn : n ≤ 500 + 4600 * q), WF M_L_ahead E Po w0 63 [some (.ref x), some (.int (nI ca)), some (.ref a), some (.int (nI (1 + 3 * q))), o4, o5, o6, o7, o8] [] w k n := by
  intro z
  induction z with
  | zero =>
    intro q w h k n f J G C H X O ec e0 o4 o5 o6 o7 o8 hz P hk hn
    obtain rfl : q = 10 := by omega
    refine r_iload_n (q := 64) dL_ahead_63 rfl rfl rfl ?_
    refine r_bipush (q := 66) (v := 30) dL_ahead_64 (by decide) rfl ?_
    refine r_icmp_ge (q := 249) (q2 := 69) dL_ahead_66 (by decide) rfl (fun _ => ?_) (fun h9 => absurd (show (30 : Int32) ≤ nI (1 + 3 * 10) by decide) h9)
    refine r_iconst (q := 250) (v := 1) dL_ahead_249 rfl rfl ?_
    refine r_zret dL_ahead_250 rfl (by decide) (show k ≤ 12000 by omega) (show n ≤ 80000 by omega) ?_
    exact hp _ _ H X e0 C
  | succ z ih =>
    intro q w h k n f J G C H X O ec e0 o4 o5 o6 o7 o8 hz P hk hn
    refine r_iload_n (q := 64) dL_ahead_63 rfl rfl rfl ?_
    refine r_bipush (q := 66) (v := 30) dL_ahead_64 (by decide) rfl ?_
    refine r_icmp_ge (q := 249) (q2 := 69) dL_ahead_66 (by decide) rfl (fun h9 => absurd h9 (nI_ge (b := 30) (show 1 + 3 * q < 30 by omega) (by decide))) (fun _ => ?_)
    refine r_iconst (q := 70) (v := 0) dL_ahead_69 rfl rfl ?_
    refine r_istore (q := 72) dL_ahead_70 (Nat.le_of_ble_eq_true rfl) (xone_of rfl) rfl ?_
    refine r_iconst (q := 73) (v := 0) dL_ahead_72 rfl rfl ?_
    refine r_istore (q := 75) dL_ahead_73 (Nat.le_of_ble_eq_true rfl) (xone_of rfl) rfl ?_
    refine ah_4 (y := 1 + 3 * q) (h := h) hca O ?_ ca 0 (by omega)
    refine r_aload_n (q := 120) dL_ahead_119 rfl rfl rfl ?_
    refine r_iconst (q := 121) (v := 0) dL_ahead_120 rfl rfl ?_
    refine r_callV (q := 124) (ci := 11) (k2 := k + 1) (n2 := n + 6) (As := [_]) dL_ahead_121 s_L_ahead_184 H.1.1 rfl rfl rfl (Nat.le_of_ble_eq_true rfl) rfl rfl rfl (show k + 1 ≤ 12000 by omega) (show n + 6 ≤ 80000 by omega) ⟨(show k + 1 ≤ 12000 by omega), (show n + 6 ≤ 80000 by omega)⟩ rfl ?_
    refine la_number H J.inC (by decide) (by decide) (by decide) (by decide) ?_
    show WF _ E Po _ _ _ _ _ _ _
    rw [show stToldS (h.1 0) 0 = (h.1 0).1 0 from rfl]
    refine r_istore (q := 126) dL_ahead_124 (Nat.le_of_ble_eq_true rfl) (xone_of rfl) rfl ?_
    refine r_aload_n (q := 127) dL_ahead_126 rfl rfl rfl ?_
    refine r_iload_n (q := 128) dL_ahead_127 rfl rfl rfl ?_
    refine r_callSH (q := 131) (k2 := k + 2) (n2 := n + 12) (As := [_, _]) dL_ahead_128 s_L_ahead_158 rfl rfl (Nat.le_of_ble_eq_true rfl) rfl rfl rfl (show k + 2 ≤ 12000 by omega) (show n + 12 ≤ 80000 by omega) ⟨(show k + 2 ≤ 12000 by omega), (show n + 12 ≤ 80000 by omega)⟩ rfl ?_
    obtain ⟨J2, G2, S2⟩ := gq_hours (1 + 3 * q) K m (h.1 0) J G (by omega) (by omega)
    obtain ⟨nn, hnn, en⟩ := cn_k (c := hoursS (1 + 3 * q) (h.1 0)) C
    have h9x : h.2.1.1 < 9 := H.1.2.2.2
    refine la_pass J (by omega) (by omega) (by omega) H (fun u1 H1 F1 => ?_)
    have X1 := X.tr F1
    have O1 := O.fx F1
    show WF _ E Po _ _ _ _ _ _ _
    rw [due_e J G (by omega) (by omega) ec (by omega) P (by omega) (by omega)]
    refine r_iload (q := 133) dL_ahead_131 rfl rfl ?_
    refine r_icmp_ne (q := 155) (q2 := 136) dL_ahead_133 (by decide) rfl (fun h9 => absurd rfl h9) (fun _ => ?_)
    refine r_aload_n (q := 137) dL_ahead_136 rfl rfl rfl ?_
    refine r_iconst (q := 138) (v := 0) dL_ahead_137 rfl rfl ?_
    refine r_callV (q := 141) (ci := 11) (k2 := k + 3) (n2 := n + 18) (As := [_]) dL_ahead_138 s_L_ahead_184 H1.1.1 rfl rfl rfl (Nat.le_of_ble_eq_true rfl) rfl rfl rfl (show k + 3 ≤ 12000 by omega) (show n + 18 ≤ 80000 by omega) ⟨(show k + 3 ≤ 12000 by omega), (show n + 18 ≤ 80000 by omega)⟩ rfl ?_
    refine la_number H1 (show inC (hoursS (1 + 3 * q) (h.1 0)) from J2.inC) (by decide) (by decide) (by decide) (by decide) ?_
    show WF _ E Po _ _ _ _ _ _ _
    rw [show stToldS ((hK (upS (hN h) 0 (hoursS (1 + 3 * q) (h.1 0)))).1 0) 0 = (h.1 0).1 0 + nI (1 + 3 * q) from hour_n (1 + 3 * q) (h.1 0)]
    refine r_iload (q := 143) dL_ahead_141 rfl rfl ?_
    refine r_iload_n (q := 144) dL_ahead_143 rfl rfl rfl ?_
    refine r_iadd (q := 145) dL_ahead_144 rfl ?_
    refine r_icmp_ne (q := 155) (q2 := 148) dL_ahead_145 (by decide) rfl (fun h9 => absurd rfl h9) (fun _ => ?_)
    refine r_aload_n (q := 149) dL_ahead_148 rfl rfl rfl ?_
    refine r_callS (q := 152) (k2 := k + 603) (n2 := n + 4018) (As := [_]) dL_ahead_149 s_L_ahead_167 rfl rfl (Nat.le_of_ble_eq_true rfl) rfl rfl rfl (show k + 603 ≤ 12000 by omega) (show n + 4018 ≤ 80000 by omega) ⟨(show k + 603 ≤ 12000 by omega), (show n + 4018 ≤ 80000 by omega)⟩ rfl ?_
    refine ct_L_sums (h := hK (upS (hN h) 0 (hoursS (1 + 3 * q) (h.1 0)))) (m := m) J2 G2 (by omega) (by omega) H1 (fun u1 H1 F1 => ?_)
    show WF _ E Po _ _ _ _ _ _ _
    have X1 := X1.tr F1
    have O1 := O1.fx F1
    refine r_if_ne (q := 157) (q2 := 155) dL_ahead_152 (by decide) rfl (fun _ => ?_) (fun h9 => absurd h9 (by decide))
    refine r_iconst (q := 158) (v := 0) dL_ahead_157 rfl rfl ?_
    refine r_istore (q := 160) dL_ahead_158 (Nat.le_of_ble_eq_true rfl) (xone_of rfl) rfl ?_
    have hF : ∀ v, AW ((hK (upS (hN h) 0 (hoursS (1 + 3 * q) (h.1 0)))).1 0) v → ∃ g, v = nI g ∧ g < 64 ∧ (¬ f g ≤ 0 → ¬ f g ≤ nI (1 + 3 * q)) := fun v hv => by
      have hv1 : AW (hoursS (1 + 3 * q) (h.1 0)) v := hv
      obtain ⟨g, e1, e2, e3, e4⟩ := aw_came J G (by omega) (S2.2.1 v hv1)
      have hg := e4 ca ec (by omega)
      refine ⟨g, e1, by omega, fun y1 y2 => ?_⟩
      have := (P g hg (1 + 3 * q) (by omega) (by omega)).mp ⟨y1, y2⟩
      rw [e1] at hv1
      exact this.2 hv1
    refine ah_7 (h := hK (upS (hN h) 0 (hoursS (1 + 3 * q) (h.1 0)))) (K := K + 5 * (1 + 3 * q)) J2 hF (A := k + 603) (B9 := n + 4018) (by omega) (by omega) (fun w k2 n2 o7 o8 H X O hk2 hn2 => ?_) (n2 (hoursS (1 + 3 * q) (h.1 0))) 0 _ (k + 603) (n + 4018) _ _ H1 X1 O1 (by show 0 + n2 (hoursS (1 + 3 * q) (h.1 0)) = n2 (hoursS (1 + 3 * q) (h.1 0)); omega) (by omega) (by omega)
    refine ah_9 (h := hK (upS (hN h) 0 (hoursS (1 + 3 * q) (h.1 0)))) (nn := nn) ha hm hK9 hca J G e0 ec P (by omega) hnn en ?_ H X O (by omega) (by omega) (fun w h k n f J G C H X O ec e0 o4 o5 o6 o7 o8 P hk hn => ih (q + 1) w h k n f J G C H X O ec e0 o4 o5 o6 o7 o8 (by omega) P hk hn)
    show EQ9 (h.1 0) ((upS (hN h) 0 (hoursS (1 + 3 * q) (h.1 0))).1 (3 + (((h.2.1.1 + 1) % 9 + 8) % 9)))
    rw [show ((h.2.1.1 + 1) % 9 + 8) % 9 = h.2.1.1 by omega]
    show EQ9 (h.1 0) (if 3 + h.2.1.1 = 0 then _ else (hN h).1 (3 + h.2.1.1))
    rw [if_neg (by omega), hN_s]
    exact eq_cp
set_option maxRecDepth 100000 in
set_option maxHeartbeats 4000000 in
theorem ct_L_ahead {E : xE} {Po : xPo} {w : xW} {x K m : Nat} {h : xHi} (J : J9 K (h.1 0)) (G : GQ m (h.1 0)) (hm : m ≤ 60) (hK9 : K + 1000 < 16000000) (C : CN h) (H : HI E w x h) (hp : ∀ u h2, HI E u x h2 → FX w u x h h2 → EQ9 (h.1 0) (h2.1 0) → CN h2 → Po (.inl (some (.int 1))) u) : Ct M_L_ahead E [.ref x] w Po := by
  refine Ct.of (ws2 := xAll) (L := [some (.ref x), none, none, none, none, none, none, none, none]) (by decide +kernel) rfl rfl (List.forall_mem_cons.mpr ⟨rfl, fun _ h => absurd h List.not_mem_nil⟩) (Nat.le_of_ble_eq_true rfl) rfl ?_
  obtain ⟨cl, us, ca, ba, ⟨a1, a2, a3, a4⟩, ⟨b1, b2, b3⟩, -⟩ := id G
  refine r_aload_n (q := 1) dL_ahead_0 rfl rfl rfl ?_
  refine r_bipush (q := 3) (v := 10) dL_ahead_1 (by decide) rfl ?_
  refine r_callV (q := 6) (ci := 11) (k2 := 0 + 1) (n2 := 0 + 6) (As := [_]) dL_ahead_3 s_L_ahead_184 H.1.1 rfl rfl rfl (Nat.le_of_ble_eq_true rfl) rfl rfl rfl (show 0 + 1 ≤ 12000 by omega) (show 0 + 6 ≤ 80000 by omega) ⟨(show 0 + 1 ≤ 12000 by omega), (show 0 + 6 ≤ 80000 by omega)⟩ rfl ?_
  refine la_number H J.inC (by decide) (by decide) (by decide) (by decide) ?_
  show WF _ E Po _ _ _ _ _ _ _
  rw [show stToldS (h.1 0) 10 = nI ca from a3]
  refine r_istore_n (q := 7) dL_ahead_6 rfl (Nat.le_of_ble_eq_true rfl) (xone_of rfl) rfl ?_
  refine r_bipush (q := 9) (v := 64) dL_ahead_7 (by decide) rfl ?_
  refine r_newarray (q := 11) (ty := .int) (t0 := 0) (N := 64) (a0 := (64, .inl (fun _ => 0))) dL_ahead_9 rfl (List.mem_cons_of_mem _ aw_int) rfl (fun _ h => h) rfl (by decide) (by decide) (by decide) (show 0 + 1 + 1 ≤ 12000 by omega) (show 0 + 6 + 64 ≤ 80000 by omega) rfl ?_
  obtain ⟨H1, X1, O1⟩ := H.add (e := .inl (E.1.2 0, 64, .inl (fun _ => (0 : Int32))))
  refine r_astore_n (q := 12) dL_ahead_11 rfl (Nat.le_of_ble_eq_true rfl) (xone_of rfl) rfl ?_
  refine r_iconst (q := 13) (v := 0) dL_ahead_12 rfl rfl ?_
  refine r_istore_n (q := 14) dL_ahead_13 rfl (Nat.le_of_ble_eq_true rfl) (xone_of rfl) rfl ?_
  refine ah_1 (ca := ca) (m := m) (K := K) (Nat.le_refl w.2) hm hK9 (by omega) (fun w h k n f J G C H X O ec e0 o4 o5 o6 o7 o8 P hk hn => ?_) ca 0 _ h (0 + 2) (0 + 70) _ J G C H1 X1 O1 a3 EQ9.rf none none none none none (by omega) (fun g hg => absurd hg (Nat.not_lt_zero _)) (by omega) (by omega)
  exact ah_2 (Nat.le_refl _) hm hK9 (by omega) w h k n f J G C H X O ec e0 P hk hn (fun w h2 k n f J G C H X O ec e0 o4 o5 o6 o7 o8 P hk hn => ah_3 (Nat.le_refl _) hm hK9 (by omega) hp 10 0 w h2 k n f J G C H X O ec e0 o4 o5 o6 o7 o8 rfl P hk hn)
