/-! ===== 71.drawn: tubs, tents, heaters, and what comes of them (rows laid by wip/p39/gen/make71.py) ===== -/
theorem j9_0 : J9 0 co0 := by
  refine ⟨⟨⟨rfl, by decide⟩, ⟨rfl, by decide⟩, ⟨rfl, by decide⟩⟩, ⟨⟨0, by decide, rfl⟩, ⟨0, by decide, rfl⟩, ⟨0, by decide, rfl⟩, ⟨10, by decide, rfl⟩, ⟨10, by decide, rfl⟩⟩, fun j _ => ⟨⟨0, by decide, rfl⟩, ⟨0, by decide, rfl⟩, ⟨0, by decide, rfl⟩, ⟨10, by decide, by decide, rfl⟩, Or.inl rfl, ⟨0, by decide, rfl⟩, fun _ => ⟨rfl, rfl⟩⟩, fun u _ => ⟨⟨0, by decide, rfl⟩, ⟨0, by decide, rfl⟩⟩, fun g _ => ⟨20, by decide, rfl⟩, ⟨fun _ _ => Or.inl rfl, fun _ _ => Or.inl rfl, fun _ _ => Or.inl rfl, fun _ _ => Or.inl rfl⟩, ⟨fun _ _ _ _ _ => rfl, fun _ _ _ _ _ => rfl, fun _ _ _ _ _ => rfl⟩, fun j hj => absurd hj (Nat.not_lt_zero _)⟩
theorem gq_0 : GQ 0 co0 :=
  ⟨12, 0, 0, 0, ⟨rfl, rfl, rfl, rfl⟩, ⟨by decide, by decide, Nat.le_refl _⟩, ⟨fun u _ => by show (0 : Int32) = nI (bt co0 u); rfl, by decide⟩, by decide,
    ⟨fun u _ p hp => absurd hp (Nat.not_lt_zero p), fun u v p q _ _ hp => absurd hp (Nat.not_lt_zero p), fun u p _ hp => absurd hp (Nat.not_lt_zero _)⟩, fun j _ => ⟨fun _ => rfl, 0, 0, by decide, by decide, rfl, rfl⟩⟩
theorem kp_cn {h h2 : xHi} (C : CN h) (P : KP h h2) : CN h2 := by
  obtain ⟨-, e | e⟩ := P
  · obtain ⟨n, a, b⟩ := C
    exact ⟨n, a, by rw [e]; exact b⟩
  · obtain ⟨n, a, b⟩ := cn_k (c := h.1 0) C
    exact ⟨n + 1, a, by rw [e]; exact b⟩
/-- the hire while it is drawn -/
def DI (K m : Nat) (h : xHi) (a b c : Nat) : Prop := J9 K (h.1 0) ∧ GQ m (h.1 0) ∧ CN h ∧ hasL h.2.2.2.2 [] ∧ n1 (h.1 0) = a ∧ n2 (h.1 0) = b ∧ n3 (h.1 0) = c
theorem DI.mono {K K2 m m2 a b c : Nat} {h : xHi} (D : DI K m h a b c) (hk : K ≤ K2) (hm : m ≤ m2) : DI K2 m2 h a b c := ⟨D.1.mono hk, D.2.1.mono hm, D.2.2⟩
theorem di_of {K m a b c m2 : Nat} {h h2 : xHi} (D : DI K m h a b c) (J : J9 (K + 240) (h2.1 0)) (G : GQ m2 (h2.1 0)) (P : KP h h2) {a2 b2 c2 : Nat} (e : n1 (h2.1 0) = a2 ∧ n2 (h2.1 0) = b2 ∧ n3 (h2.1 0) = c2) : DI (K + 240) m2 h2 a2 b2 c2 :=
  ⟨J, G, kp_cn D.2.2.1 P, by rw [P.1]; exact D.2.2.2.1, e⟩
section DRN
variable {E : xE} {Po : xPo} {w : xW} {x K m a b c : Nat} {h : xHi}
theorem cl_up {y : Int32} {n : Nat} (e : y = nI n) (hn : n < 1000) : (y + 1).toNatClampNeg = n + 1 := by
  rw [e, nI_1, nI_cl (by omega)]
theorem ld_tub {z : Nat} (D : DI K m h a b c) (ha : a < 8) (h1 : 1 ≤ z) (h3 : z ≤ 3) (H : HI E w x h) (hp : ∀ u h2, DI (K + 240) m h2 (a + 1) b c → HI E u x h2 → FX w u x h h2 → Po (.inl (some (.int (nI a)))) u) : Ct M_L_tub E [.ref x, .int (nI z)] w Po := by
  obtain ⟨J, G, C, B, n1e, n2e, n3e⟩ := id D
  have c1 : (h.1 0).1 1 = nI a := by rw [← n1e]; exact J.1.1.1
  have z1 : ¬ (nI z < 1 ∨ 3 < nI z) := fun q => q.elim (nI_nlt (b := 1) h1 (by omega)) (fun q => Int32.not_le.mpr q (nI_le (b := 3) h3 (by decide)))
  have e : addTubS (h.1 0) (nI z) = ((h.1 0).1 1, cS (cT (h.1 0) ((h.1 0).1 1).toNatClampNeg 0 (nI z)) 1 ((h.1 0).1 1 + 1)) := by
    unfold addTubS
    rw [if_neg z1, if_neg (by rw [c1]; exact nI_pos (by omega)), if_pos (by rw [c1]; exact nI_lt (b := 8) ha (by decide))]
  have e1 : (addTubS (h.1 0) (nI z)).1 = nI a := by rw [e]; exact c1
  rcases dr_tub J G h1 h3 with ⟨v, hv, ev, J1, G1⟩ | ⟨ev, -⟩
  · exact ct_L_tub 0 (nI a) (fun g => g = hK (upS (hN h) 0 (addTubS (h.1 0) (nI z)).2)) H (by decide) (fun _ e => by rw [e]; rfl) (fun Po q => ct_X9_tub H (hS_ok (show a < 2147483000 by omega) e1 (fun u Hu fu => q u _ rfl Hu fu))) (fun u h2 e9 Hu fu => by
      subst e9
      refine hp u _ (di_of D (by exact J1) (by exact G1) ⟨by rfl, Or.inr (by rfl)⟩ ⟨?_, ?_, ?_⟩) Hu fu
      · show n1 (addTubS (h.1 0) (nI z)).2 = a + 1
        rw [e]; exact cl_up c1 (by omega)
      · show n2 (addTubS (h.1 0) (nI z)).2 = b
        rw [e]; exact n2e
      · show n3 (addTubS (h.1 0) (nI z)).2 = c
        rw [e]; exact n3e)
  · rw [e1] at ev; exact absurd ev (nI_m1 (by omega))
theorem ld_tent {z : Nat} (D : DI K m h a b c) (hb : b < 5) (h3 : z ≤ 9) (H : HI E w x h) (hp : ∀ u h2, DI (K + 240) m h2 a (b + 1) c → HI E u x h2 → FX w u x h h2 → Po (.inl (some (.int (nI b)))) u) : Ct M_L_tent E [.ref x, .int (nI z)] w Po := by
  obtain ⟨J, G, C, B, n1e, n2e, n3e⟩ := id D
  have c1 : (h.1 0).1 2 = nI b := by rw [← n2e]; exact J.1.2.1.1
  have e : addTentS (h.1 0) (nI z) = ((h.1 0).1 2, cS (cU (h.1 0) ((h.1 0).1 2).toNatClampNeg 0 (nI z)) 2 ((h.1 0).1 2 + 1)) := by
    unfold addTentS
    rw [if_neg (nI_pos (by omega)), if_pos (show nI z ≤ 9 from nI_le (b := 9) h3 (by decide)), if_neg (by rw [c1]; exact nI_pos (by omega)), if_pos (by rw [c1]; exact nI_lt (b := 5) hb (by decide))]
  have e1 : (addTentS (h.1 0) (nI z)).1 = nI b := by rw [e]; exact c1
  rcases dr_tent J G h3 with ⟨v, hv, ev, J1, G1⟩ | ⟨ev, -⟩
  · exact ct_L_tent 0 (nI b) (fun g => g = hK (upS (hN h) 0 (addTentS (h.1 0) (nI z)).2)) H (by decide) (fun _ e => by rw [e]; rfl) (fun Po q => ct_X9_tent H (hS_ok (show b < 2147483000 by omega) e1 (fun u Hu fu => q u _ rfl Hu fu))) (fun u h2 e9 Hu fu => by
      subst e9
      refine hp u _ (di_of D (by exact J1) (by exact G1) ⟨by rfl, Or.inr (by rfl)⟩ ⟨?_, ?_, ?_⟩) Hu fu
      · show n1 (addTentS (h.1 0) (nI z)).2 = a
        rw [e]; exact n1e
      · show n2 (addTentS (h.1 0) (nI z)).2 = b + 1
        rw [e]; exact cl_up c1 (by omega)
      · show n3 (addTentS (h.1 0) (nI z)).2 = c
        rw [e]; exact n3e)
  · rw [e1] at ev; exact absurd ev (nI_m1 (by omega))
theorem ld_heater (D : DI K m h a b c) (hc : c < 4) (H : HI E w x h) (hp : ∀ u h2, DI (K + 240) m h2 a b (c + 1) → HI E u x h2 → FX w u x h h2 → Po (.inl (some (.int (nI c)))) u) : Ct M_L_heater E [.ref x] w Po := by
  obtain ⟨J, G, C, B, n1e, n2e, n3e⟩ := id D
  have c1 : (h.1 0).1 3 = nI c := by rw [← n3e]; exact J.1.2.2.1
  have e : addHeaterS (h.1 0) = ((h.1 0).1 3, cS (h.1 0) 3 ((h.1 0).1 3 + 1)) := by
    unfold addHeaterS
    rw [if_pos (by rw [c1]; exact nI_lt (b := 4) hc (by decide))]
  have e1 : (addHeaterS (h.1 0)).1 = nI c := by rw [e]; exact c1
  rcases dr_heater J G with ⟨v, hv, ev, J1, G1⟩ | ⟨ev, -⟩
  · exact ct_L_heater 0 (nI c) (fun g => g = hK (upS (hN h) 0 (addHeaterS (h.1 0)).2)) H (by decide) (fun _ e => by rw [e]; rfl) (fun Po q => ct_X9_heater H (hS_ok (show c < 2147483000 by omega) e1 (fun u Hu fu => q u _ rfl Hu fu))) (fun u h2 e9 Hu fu => by
      subst e9
      refine hp u _ (di_of D (by exact J1) (by exact G1) ⟨by rfl, Or.inr (by rfl)⟩ ⟨?_, ?_, ?_⟩) Hu fu
      · show n1 (addHeaterS (h.1 0)).2 = a
        rw [e]; exact n1e
      · show n2 (addHeaterS (h.1 0)).2 = b
        rw [e]; exact n2e
      · show n3 (addHeaterS (h.1 0)).2 = c + 1
        rw [e]; exact cl_up c1 (by omega))
  · rw [e1] at ev; exact absurd ev (nI_m1 (by omega))
theorem ne_tear {d : xCo} {t s : Int32} (J : J9 K d) : (tearS d t s).1 ≠ -1 := by
  rcases (sim_tear R9.rfl9 J : OK9 K d d (tearS d t s) (mTear d t s)) with ⟨-, -, ⟨v, hv, ev⟩, -⟩ | ⟨o1, -⟩ | ⟨-, o2, -⟩ | ⟨-, o2, -⟩
  · rw [ev]; exact nI_m1 (by omega)
  · exact absurd o1 nt_tear_1
  · rw [o2]; decide
  · rw [o2]; decide
theorem ne_pass {d : xCo} {t : Int32} (J : J9 K d) (hK : K + 240 < 16000000) : (passS d t).1 ≠ -1 := by
  rcases (sim_pass R9.rfl9 J hK : OK9 K d d (passS d t) (mPass d t)) with ⟨-, -, ⟨v, hv, ev⟩, -⟩ | ⟨o1, -⟩ | ⟨-, o2, -⟩ | ⟨-, o2, -⟩
  · rw [ev]; exact nI_m1 (by omega)
  · exact absurd o1 nt_pass_1
  · rw [o2]; decide
  · rw [o2]; decide
/-- what comes of a step -/
def DS (K m : Nat) (h2 : xHi) (a b c : Nat) (r : Int32) : Prop := DI K m h2 a b c ∧ ((∃ v, v < 2147483000 ∧ r = nI v) ∨ (r < -1 ∧ ∃ y, 1 ≤ y ∧ y ≤ 14 ∧ (h2.1 0).1 10 = nI y))
theorem ds_of {m2 : Nat} {h2 : xHi} {r : Int32} (D : DI K m h a b c) (Q : DD K m2 h h2 r) (N : N9 (h.1 0) (h2.1 0)) : DS (K + 240) m2 h2 a b c r :=
  ⟨di_of D Q.1 Q.2.1 Q.2.2.2 ⟨N.n.1.trans D.2.2.2.2.1, N.n.2.1.trans D.2.2.2.2.2.1, N.n.2.2.trans D.2.2.2.2.2.2⟩, Q.2.2.1⟩
theorem ds_m {m2 : Nat} {r : Int32} (D : DS K m h a b c r) (hm : m ≤ m2) : DS K m2 h a b c r := ⟨D.1.mono (Nat.le_refl _) hm, D.2⟩
theorem ds_g0 {r : Int32} (D : DS K m h a b c r) : DS K m h a b c 0 := ⟨D.1, Or.inl ⟨0, by decide, rfl⟩⟩
theorem ds_g1 {r : Int32} (D : DS K m h a b c r) (q : ¬ -1 ≤ r) : DS K m h a b c (-2) := by
  rcases D with ⟨D, ⟨v, hv, e⟩ | ⟨-, e⟩⟩
  · rw [e] at q
    exact absurd (Int32.le_of_lt (Int32.lt_of_lt_of_le (by decide : (-1 : Int32) < 0) (nI_pos' (by omega)))) q
  · exact ⟨D, Or.inr ⟨by decide, e⟩⟩
end DRN
theorem sh_i : ∀ i, i < 7 → (((3 + 2 * nI i : Int32).toUInt32 &&& Int32.toUInt32 31).toBitVec % 32).toNat = 3 + 2 * i := by decide +kernel
set_option maxRecDepth 100000 in
set_option maxHeartbeats 4000000 in
theorem dw_1 {E : xE} {Po : xPo} {w0 : xW} {x sa cc : Nat} (hN : E.2.2.2.1 < 2147483648) (hcc : cc < 2147483648) (kx : ∀ (w : xW) (h : xHi) (k n : Nat) (o4 o5 o6 o7 o8 o9 o10 o11 : Option Value) (D : DI 1440 0 h (2 + cc % 5) 0 0) (H : HI E w x h) (S : sa = E.2.2.1) (hk : k ≤ 410) (hn : n ≤ 4050), WF M_L_drawn E Po w0 60 [some (.ref sa), some (.ref x), some (.int (nI cc)), some (.int (nI (2 + cc % 5))), o4, o5, o6, o7, o8, o9, o10, o11] [] w k n) : ∀ (z i : Nat) (w : xW) (h : xHi) (k n : Nat) (o5 o6 o7 o8 o9 o10 o11 : Option Value) (D : DI (240 * i) 0 h i 0 0) (H : HI E w x h) (S : sa = E.2.2.1) (hk : k ≤ 401 + i) (hn : n ≤ 4008 + 6 * i) (hz : i + z = (2 + cc % 5)), WF M_L_drawn E Po w0 25 [some (.ref sa), some (.ref x), some (.int (nI cc)), some (.int (nI (2 + cc % 5))), some (.int (nI i)), o5, o6, o7, o8, o9, o10, o11] [] w k n := by
  intro z
  induction z with
  | zero =>
    intro i w h k n o5 o6 o7 o8 o9 o10 o11 D H S hk hn hz
    obtain rfl : i = (2 + cc % 5) := by omega
    refine r_iload (q := 27) dL_drawn_25 rfl rfl ?_
    refine r_iload_n (q := 28) dL_drawn_27 rfl rfl rfl ?_
    refine r_icmp_ge (q := 60) (q2 := 31) dL_drawn_28 (by decide) rfl (fun _ => ?_) (fun h9 => absurd (Int32.le_refl _) h9)
    exact kx _ h (k) (n) _ _ _ _ _ _ _ _ (D.mono (by omega) (Nat.le_refl _)) H S (by omega) (by omega)
  | succ z ih =>
    intro i w h k n o5 o6 o7 o8 o9 o10 o11 D H S hk hn hz
    refine r_iload (q := 27) dL_drawn_25 rfl rfl ?_
    refine r_iload_n (q := 28) dL_drawn_27 rfl rfl rfl ?_
    refine r_icmp_ge (q := 60) (q2 := 31) dL_drawn_28 (by decide) rfl (fun h9 => absurd h9 (nI_ge (show i < (2 + cc % 5) by omega) (by omega))) (fun _ => ?_)
    refine r_aload_n (q := 32) dL_drawn_31 rfl rfl rfl ?_
    refine r_iconst (q := 33) (v := 1) dL_drawn_32 rfl rfl ?_
    refine r_iload_n (q := 34) dL_drawn_33 rfl rfl rfl ?_
    refine r_iconst (q := 35) (v := 3) dL_drawn_34 rfl rfl ?_
    refine r_iconst (q := 36) (v := 2) dL_drawn_35 rfl rfl ?_
    refine r_iload (q := 38) dL_drawn_36 rfl rfl ?_
    refine r_imul (q := 39) dL_drawn_38 rfl ?_
    refine r_iadd (q := 40) dL_drawn_39 rfl ?_
    refine r_iushr (q := 41) dL_drawn_40 rfl ?_
    rw [pk_ushrN (show cc < 2 ^ 32 by omega) (3 + 2 * nI i) (3 + 2 * i) (sh_i i (by omega))]
    refine r_iconst (q := 42) (v := 3) dL_drawn_41 rfl rfl ?_
    refine r_irem (q := 43) dL_drawn_42 (by decide) rfl ?_
    have hq : cc / 2 ^ (3 + 2 * i) < 2147483648 := Nat.lt_of_le_of_lt (Nat.div_le_self _ _) hcc
    rw [show nI (cc / 2 ^ (3 + 2 * i)) - nI (cc / 2 ^ (3 + 2 * i)) / 3 * 3 = nI (cc / 2 ^ (3 + 2 * i) % 3) from pk_rem (d := 3) (by omega) (by decide) (by decide)]
    refine r_iadd (q := 44) dL_drawn_43 rfl ?_
    rw [show (1 : Int32) + nI (cc / 2 ^ (3 + 2 * i) % 3) = nI (1 + cc / 2 ^ (3 + 2 * i) % 3) from nI_add 1 _]
    refine r_callSH (q := 47) (k2 := k + 1) (n2 := n + 6) (As := [_, _]) dL_drawn_44 s_L_drawn_130 rfl rfl (Nat.le_of_ble_eq_true rfl) rfl rfl rfl (show k + 1 ≤ 1200 by omega) (show n + 6 ≤ 9000 by omega) ⟨(show k + 1 ≤ 1200 by omega), (show n + 6 ≤ 9000 by omega)⟩ rfl ?_
    refine ld_tub D (by omega) (by omega) (by omega) H (fun u1 h1 D1 H1 F1 => ?_)
    have S1 := S
    show WF _ E Po _ _ _ _ _ _ _
    refine r_iload (q := 49) dL_drawn_47 rfl rfl ?_
    refine r_icmp_eq (q := 54) (q2 := 52) dL_drawn_49 (by decide) rfl (fun _ => ?_) (fun h9 => absurd rfl h9)
    refine r_iinc (q := 57) dL_drawn_54 rfl (Nat.le_of_ble_eq_true rfl) (xone_of rfl) rfl ?_
    rw [show nI i + Int32.ofInt 1 = nI (i + 1) from nI_1 i]
    refine r_goto (q := 25) dL_drawn_57 (by decide) ?_
    exact ih (i + 1) _ h1 (k + 1) (n + 6) _ _ _ _ _ _ _ (D1.mono (by omega) (Nat.le_refl _)) H1 S1 (by omega) (by omega) (by omega)
set_option maxRecDepth 100000 in
set_option maxHeartbeats 4000000 in
theorem dw_2 {E : xE} {Po : xPo} {w0 : xW} {x sa cc : Nat} (hN : E.2.2.2.1 < 2147483648) (hcc : cc < 2147483648) (kx : ∀ (w : xW) (h : xHi) (k n : Nat) (o5 o6 o7 o8 o9 o10 o11 : Option Value) (D : DI 2400 0 h (2 + cc % 5) (1 + cc / 2 ^ 16 % 4) 0) (H : HI E w x h) (S : sa = E.2.2.1) (hk : k ≤ 420) (hn : n ≤ 4080), WF M_L_drawn E Po w0 110 [some (.ref sa), some (.ref x), some (.int (nI cc)), some (.int (nI (2 + cc % 5))), some (.int (nI (1 + cc / 2 ^ 16 % 4))), o5, o6, o7, o8, o9, o10, o11] [] w k n) : ∀ (z i : Nat) (w : xW) (h : xHi) (k n : Nat) (o6 o7 o8 o9 o10 o11 : Option Value) (D : DI (1440 + 240 * i) 0 h (2 + cc % 5) i 0) (H : HI E w x h) (S : sa = E.2.2.1) (hk : k ≤ 410 + i) (hn : n ≤ 4050 + 6 * i) (hz : i + z = (1 + cc / 2 ^ 16 % 4)), WF M_L_drawn E Po w0 73 [some (.ref sa), some (.ref x), some (.int (nI cc)), some (.int (nI (2 + cc % 5))), some (.int (nI (1 + cc / 2 ^ 16 % 4))), some (.int (nI i)), o6, o7, o8, o9, o10, o11] [] w k n := by
  intro z
  induction z with
  | zero =>
    intro i w h k n o6 o7 o8 o9 o10 o11 D H S hk hn hz
    obtain rfl : i = (1 + cc / 2 ^ 16 % 4) := by omega
    refine r_iload (q := 75) dL_drawn_73 rfl rfl ?_
    refine r_iload (q := 77) dL_drawn_75 rfl rfl ?_
    refine r_icmp_ge (q := 110) (q2 := 80) dL_drawn_77 (by decide) rfl (fun _ => ?_) (fun h9 => absurd (Int32.le_refl _) h9)
    exact kx _ h (k) (n) _ _ _ _ _ _ _ (D.mono (by omega) (Nat.le_refl _)) H S (by omega) (by omega)
  | succ z ih =>
    intro i w h k n o6 o7 o8 o9 o10 o11 D H S hk hn hz
    refine r_iload (q := 75) dL_drawn_73 rfl rfl ?_
    refine r_iload (q := 77) dL_drawn_75 rfl rfl ?_
    refine r_icmp_ge (q := 110) (q2 := 80) dL_drawn_77 (by decide) rfl (fun h9 => absurd h9 (nI_ge (show i < (1 + cc / 2 ^ 16 % 4) by omega) (by omega))) (fun _ => ?_)
    refine r_aload_n (q := 81) dL_drawn_80 rfl rfl rfl ?_
    refine r_aload_n (q := 82) dL_drawn_81 rfl rfl rfl ?_
    refine r_iconst (q := 83) (v := 1) dL_drawn_82 rfl rfl ?_
    refine r_iload (q := 85) dL_drawn_83 rfl rfl ?_
    refine r_iadd (q := 86) dL_drawn_85 rfl ?_
    rw [show (1 : Int32) + nI i = nI (1 + i) from nI_add 1 i]
    refine r_callS (q := 89) (k2 := k) (n2 := n) (As := [_, _]) dL_drawn_86 s_L_drawn_126 rfl rfl (Nat.le_of_ble_eq_true rfl) rfl rfl rfl (show k ≤ 1200 by omega) (show n ≤ 9000 by omega) ⟨(show k ≤ 1200 by omega), (show n ≤ 9000 by omega)⟩ rfl ?_
    refine ct_L_cell S hN (by omega) (fun v => ?_)
    show WF _ E Po _ _ _ _ _ _ _
    refine r_iconst (q := 90) (v := 1) dL_drawn_89 rfl rfl ?_
    refine r_iushr (q := 91) dL_drawn_90 rfl ?_
    obtain ⟨dd, hdd, ed⟩ := us_1 v
    rw [ed]
    refine r_bipush (q := 93) (v := 10) dL_drawn_91 (by decide) rfl ?_
    refine r_irem (q := 94) dL_drawn_93 (by decide) rfl ?_
    rw [show nI (dd) - nI (dd) / 10 * 10 = nI (dd % 10) from pk_rem (d := 10) (by omega) (by decide) (by decide)]
    refine r_callSH (q := 97) (k2 := k + 1) (n2 := n + 6) (As := [_, _]) dL_drawn_94 s_L_drawn_133 rfl rfl (Nat.le_of_ble_eq_true rfl) rfl rfl rfl (show k + 1 ≤ 1200 by omega) (show n + 6 ≤ 9000 by omega) ⟨(show k + 1 ≤ 1200 by omega), (show n + 6 ≤ 9000 by omega)⟩ rfl ?_
    refine ld_tent D (by omega) (by omega) H (fun u1 h1 D1 H1 F1 => ?_)
    have S1 := S
    show WF _ E Po _ _ _ _ _ _ _
    refine r_iload (q := 99) dL_drawn_97 rfl rfl ?_
    refine r_icmp_eq (q := 104) (q2 := 102) dL_drawn_99 (by decide) rfl (fun _ => ?_) (fun h9 => absurd rfl h9)
    refine r_iinc (q := 107) dL_drawn_104 rfl (Nat.le_of_ble_eq_true rfl) (xone_of rfl) rfl ?_
    rw [show nI i + Int32.ofInt 1 = nI (i + 1) from nI_1 i]
    refine r_goto (q := 73) dL_drawn_107 (by decide) ?_
    exact ih (i + 1) _ h1 (k + 1) (n + 6) _ _ _ _ _ _ (D1.mono (by omega) (Nat.le_refl _)) H1 S1 (by omega) (by omega) (by omega)
set_option maxRecDepth 100000 in
set_option maxHeartbeats 4000000 in
theorem dw_3 {E : xE} {Po : xPo} {w0 : xW} {x sa cc : Nat} (hN : E.2.2.2.1 < 2147483648) (hcc : cc < 2147483648) (kx : ∀ (w : xW) (h : xHi) (k n : Nat) (o6 o7 o8 o9 o10 o11 : Option Value) (D : DI 3360 0 h (2 + cc % 5) (1 + cc / 2 ^ 16 % 4) (1 + cc / 2 ^ 19 % 4)) (H : HI E w x h) (S : sa = E.2.2.1) (hk : k ≤ 430) (hn : n ≤ 4110), WF M_L_drawn E Po w0 147 [some (.ref sa), some (.ref x), some (.int (nI cc)), some (.int (nI (2 + cc % 5))), some (.int (nI (1 + cc / 2 ^ 16 % 4))), some (.int (nI (1 + cc / 2 ^ 19 % 4))), o6, o7, o8, o9, o10, o11] [] w k n) : ∀ (z i : Nat) (w : xW) (h : xHi) (k n : Nat) (o7 o8 o9 o10 o11 : Option Value) (D : DI (2400 + 240 * i) 0 h (2 + cc % 5) (1 + cc / 2 ^ 16 % 4) i) (H : HI E w x h) (S : sa = E.2.2.1) (hk : k ≤ 420 + i) (hn : n ≤ 4080 + 6 * i) (hz : i + z = (1 + cc / 2 ^ 19 % 4)), WF M_L_drawn E Po w0 123 [some (.ref sa), some (.ref x), some (.int (nI cc)), some (.int (nI (2 + cc % 5))), some (.int (nI (1 + cc / 2 ^ 16 % 4))), some (.int (nI (1 + cc / 2 ^ 19 % 4))), some (.int (nI i)), o7, o8, o9, o10, o11] [] w k n := by
  intro z
  induction z with
  | zero =>
    intro i w h k n o7 o8 o9 o10 o11 D H S hk hn hz
    obtain rfl : i = (1 + cc / 2 ^ 19 % 4) := by omega
    refine r_iload (q := 125) dL_drawn_123 rfl rfl ?_
    refine r_iload (q := 127) dL_drawn_125 rfl rfl ?_
    refine r_icmp_ge (q := 147) (q2 := 130) dL_drawn_127 (by decide) rfl (fun _ => ?_) (fun h9 => absurd (Int32.le_refl _) h9)
    exact kx _ h (k) (n) _ _ _ _ _ _ (D.mono (by omega) (Nat.le_refl _)) H S (by omega) (by omega)
  | succ z ih =>
    intro i w h k n o7 o8 o9 o10 o11 D H S hk hn hz
    refine r_iload (q := 125) dL_drawn_123 rfl rfl ?_
    refine r_iload (q := 127) dL_drawn_125 rfl rfl ?_
    refine r_icmp_ge (q := 147) (q2 := 130) dL_drawn_127 (by decide) rfl (fun h9 => absurd h9 (nI_ge (show i < (1 + cc / 2 ^ 19 % 4) by omega) (by omega))) (fun _ => ?_)
    refine r_aload_n (q := 131) dL_drawn_130 rfl rfl rfl ?_
    refine r_callSH (q := 134) (k2 := k + 1) (n2 := n + 6) (As := [_]) dL_drawn_131 s_L_drawn_135 rfl rfl (Nat.le_of_ble_eq_true rfl) rfl rfl rfl (show k + 1 ≤ 1200 by omega) (show n + 6 ≤ 9000 by omega) ⟨(show k + 1 ≤ 1200 by omega), (show n + 6 ≤ 9000 by omega)⟩ rfl ?_
    refine ld_heater D (by omega) H (fun u1 h1 D1 H1 F1 => ?_)
    have S1 := S
    show WF _ E Po _ _ _ _ _ _ _
    refine r_iload (q := 136) dL_drawn_134 rfl rfl ?_
    refine r_icmp_eq (q := 141) (q2 := 139) dL_drawn_136 (by decide) rfl (fun _ => ?_) (fun h9 => absurd rfl h9)
    refine r_iinc (q := 144) dL_drawn_141 rfl (Nat.le_of_ble_eq_true rfl) (xone_of rfl) rfl ?_
    rw [show nI i + Int32.ofInt 1 = nI (i + 1) from nI_1 i]
    refine r_goto (q := 123) dL_drawn_144 (by decide) ?_
    exact ih (i + 1) _ h1 (k + 1) (n + 6) _ _ _ _ _ (D1.mono (by omega) (Nat.le_refl _)) H1 S1 (by omega) (by omega) (by omega)
set_option maxRecDepth 100000 in
set_option maxHeartbeats 4000000 in
theorem dw_j {E : xE} {Po : xPo} {w0 w : xW} {x sa cc i k n a b c : Nat} {h : xHi} {r : Int32} {o8 o9 o10 : Option Value} (hi : i < 60) (D : DS (3360 + 240 * (i + 1)) (i + 1) h a b c r) (H : HI E w x h) (S : sa = E.2.2.1) (hk : k ≤ 430 + 3 * i + 1) (hn : n ≤ 4110 + 18 * i + 6) (kx : ∀ (w : xW) (k n : Nat), HI E w x h → sa = E.2.2.1 → k ≤ 430 + 3 * (i + 1) → n ≤ 4110 + 18 * (i + 1) → WF M_L_drawn E Po w0 162 [some (.ref sa), some (.ref x), some (.int (nI cc)), some (.int (nI (2 + cc % 5))), some (.int (nI (1 + cc / 2 ^ 16 % 4))), some (.int (nI (1 + cc / 2 ^ 19 % 4))), some (.int (nI (14 + cc / 2 ^ 22 % 40))), some (.int (nI (i + 1))), o8, o9, o10, some (.int r)] [] w k n) : WF M_L_drawn E Po w0 480 [some (.ref sa), some (.ref x), some (.int (nI cc)), some (.int (nI (2 + cc % 5))), some (.int (nI (1 + cc / 2 ^ 16 % 4))), some (.int (nI (1 + cc / 2 ^ 19 % 4))), some (.int (nI (14 + cc / 2 ^ 22 % 40))), some (.int (nI i)), o8, o9, o10, some (.int r)] [] w k n := by
  have hne : ¬ r = -1 := by
    rcases D.2 with ⟨v, hv, e⟩ | ⟨q, -⟩
    · rw [e]; exact nI_m1 (by omega)
    · exact fun e => absurd q (by rw [e]; decide)
  refine r_iload (q := 482) dL_drawn_480 rfl rfl ?_
  refine r_iconst (q := 483) (v := (-1)) dL_drawn_482 rfl rfl ?_
  refine r_icmp_eq (q := 510) (q2 := 486) dL_drawn_483 (by decide) rfl (fun h9 => absurd h9 hne) (fun _ => ?_)
  refine r_iload (q := 488) dL_drawn_486 rfl rfl ?_
  refine r_if_ge (q := 512) (q2 := 491) dL_drawn_488 (by decide) rfl (fun q => ?_) (fun q => ?_)
  · refine r_iinc (q := 515) dL_drawn_512 rfl (Nat.le_of_ble_eq_true rfl) (xone_of rfl) rfl ?_
    rw [show nI i + Int32.ofInt 1 = nI (i + 1) from nI_1 i]
    refine r_goto (q := 162) dL_drawn_515 (by decide) ?_
    exact kx _ (k) (n) H S (by omega) (by omega)
  · obtain ⟨y, y1, y2, ey⟩ : ∃ y, 1 ≤ y ∧ y ≤ 14 ∧ (h.1 0).1 10 = nI y := by
      rcases D.2 with ⟨v, hv, e⟩ | ⟨-, z⟩
      · rw [e] at q; exact absurd (nI_pos' (by omega)) q
      · exact z
    have er : lRefusal (h.1 0) 1 = nI y := by
      unfold lRefusal
      rw [ey, if_neg (nI_ne0 (by omega) (by omega)), if_neg (by decide)]
    refine r_aload_n (q := 492) dL_drawn_491 rfl rfl rfl ?_
    refine r_iconst (q := 493) (v := 1) dL_drawn_492 rfl rfl ?_
    refine r_callSH (q := 496) (k2 := k + 1) (n2 := n + 6) (As := [_, _]) dL_drawn_493 s_L_drawn_160 rfl rfl (Nat.le_of_ble_eq_true rfl) rfl rfl rfl (show k + 1 ≤ 1200 by omega) (show n + 6 ≤ 9000 by omega) ⟨(show k + 1 ≤ 1200 by omega), (show n + 6 ≤ 9000 by omega)⟩ rfl ?_
    refine la_refusal H (fun u1 H1 F1 => ?_)
    show WF _ E Po _ _ _ _ _ _ _
    rw [er]
    refine r_iconst (q := 497) (v := 1) dL_drawn_496 rfl rfl ?_
    refine r_icmp_lt (q := 510) (q2 := 500) dL_drawn_497 (by decide) rfl (fun h9 => absurd h9 (nI_nlt (b := 1) y1 (by omega))) (fun _ => ?_)
    refine r_aload_n (q := 501) dL_drawn_500 rfl rfl rfl ?_
    refine r_iconst (q := 502) (v := 1) dL_drawn_501 rfl rfl ?_
    refine r_callSH (q := 505) (k2 := k + 2) (n2 := n + 12) (As := [_, _]) dL_drawn_502 s_L_drawn_160 rfl rfl (Nat.le_of_ble_eq_true rfl) rfl rfl rfl (show k + 2 ≤ 1200 by omega) (show n + 12 ≤ 9000 by omega) ⟨(show k + 2 ≤ 1200 by omega), (show n + 12 ≤ 9000 by omega)⟩ rfl ?_
    refine la_refusal H1 (fun u2 H2 F2 => ?_)
    show WF _ E Po _ _ _ _ _ _ _
    rw [er]
    refine r_bipush (q := 507) (v := 14) dL_drawn_505 (by decide) rfl ?_
    refine r_icmp_le (q := 512) (q2 := 510) dL_drawn_507 (by decide) rfl (fun _ => ?_) (fun h9 => absurd (nI_le (b := 14) y2 (by decide)) h9)
    refine r_iinc (q := 515) dL_drawn_512 rfl (Nat.le_of_ble_eq_true rfl) (xone_of rfl) rfl ?_
    rw [show nI i + Int32.ofInt 1 = nI (i + 1) from nI_1 i]
    refine r_goto (q := 162) dL_drawn_515 (by decide) ?_
    exact kx _ (k + 2) (n + 12) H2 S (by omega) (by omega)
set_option maxRecDepth 100000 in
set_option maxHeartbeats 4000000 in
theorem dw_4 {E : xE} {Po : xPo} {w0 : xW} {x sa cc : Nat} (hN : E.2.2.2.1 < 2147483648) (hcc : cc < 2147483648) (hp : ∀ (u : xW) (h : xHi), HI E u x h → J9 20000 (h.1 0) → GQ 60 (h.1 0) → CN h → hasL h.2.2.2.2 [] → sa = E.2.2.1 → Po (.inl (some (.ref x))) u) : ∀ (z i : Nat) (w : xW) (h : xHi) (k n : Nat) (o8 o9 o10 o11 : Option Value) (D : DI (3360 + 240 * i) i h (2 + cc % 5) (1 + cc / 2 ^ 16 % 4) (1 + cc / 2 ^ 19 % 4)) (H : HI E w x h) (S : sa = E.2.2.1) (hk : k ≤ 430 + 3 * i) (hn : n ≤ 4110 + 18 * i) (hz : i + z = (14 + cc / 2 ^ 22 % 40)), WF M_L_drawn E Po w0 162 [some (.ref sa), some (.ref x), some (.int (nI cc)), some (.int (nI (2 + cc % 5))), some (.int (nI (1 + cc / 2 ^ 16 % 4))), some (.int (nI (1 + cc / 2 ^ 19 % 4))), some (.int (nI (14 + cc / 2 ^ 22 % 40))), some (.int (nI i)), o8, o9, o10, o11] [] w k n := by
  intro z
  induction z with
  | zero =>
    intro i w h k n o8 o9 o10 o11 D H S hk hn hz
    obtain rfl : i = (14 + cc / 2 ^ 22 % 40) := by omega
    refine r_iload (q := 164) dL_drawn_162 rfl rfl ?_
    refine r_iload (q := 166) dL_drawn_164 rfl rfl ?_
    refine r_icmp_ge (q := 518) (q2 := 169) dL_drawn_166 (by decide) rfl (fun _ => ?_) (fun h9 => absurd (Int32.le_refl _) h9)
    refine r_aload_n (q := 519) dL_drawn_518 rfl rfl rfl ?_
    refine r_aret dL_drawn_519 rfl (Or.inr ⟨_, rfl⟩) (show k ≤ 1200 by omega) (show n ≤ 9000 by omega) ?_
    exact hp _ h H (D.1.mono (by omega)) (D.2.1.mono (by omega)) D.2.2.1 D.2.2.2.1 S
  | succ z ih =>
    intro i w h k n o8 o9 o10 o11 D H S hk hn hz
    refine r_iload (q := 164) dL_drawn_162 rfl rfl ?_
    refine r_iload (q := 166) dL_drawn_164 rfl rfl ?_
    refine r_icmp_ge (q := 518) (q2 := 169) dL_drawn_166 (by decide) rfl (fun h9 => absurd h9 (nI_ge (show i < (14 + cc / 2 ^ 22 % 40) by omega) (by omega))) (fun _ => ?_)
    refine r_aload_n (q := 170) dL_drawn_169 rfl rfl rfl ?_
    refine r_iconst (q := 171) (v := 5) dL_drawn_170 rfl rfl ?_
    refine r_iload (q := 173) dL_drawn_171 rfl rfl ?_
    refine r_iadd (q := 174) dL_drawn_173 rfl ?_
    rw [show (5 : Int32) + nI i = nI (5 + i) from nI_add 5 i]
    refine r_callS (q := 177) (k2 := k) (n2 := n) (As := [_, _]) dL_drawn_174 s_L_drawn_126 rfl rfl (Nat.le_of_ble_eq_true rfl) rfl rfl rfl (show k ≤ 1200 by omega) (show n ≤ 9000 by omega) ⟨(show k ≤ 1200 by omega), (show n ≤ 9000 by omega)⟩ rfl ?_
    refine ct_L_cell S hN (by omega) (fun v => ?_)
    show WF _ E Po _ _ _ _ _ _ _
    refine r_iconst (q := 178) (v := 1) dL_drawn_177 rfl rfl ?_
    refine r_iushr (q := 179) dL_drawn_178 rfl ?_
    obtain ⟨dd, hdd, ed⟩ := us_1 v
    rw [ed]
    refine r_istore (q := 181) dL_drawn_179 (Nat.le_of_ble_eq_true rfl) (xone_of rfl) rfl ?_
    refine r_iload (q := 183) dL_drawn_181 rfl rfl ?_
    refine r_iconst (q := 184) (v := 4) dL_drawn_183 rfl rfl ?_
    refine r_iushr (q := 185) dL_drawn_184 rfl ?_
    rw [pk_ushrN (show dd < 2 ^ 32 by omega) 4 4 (by decide)]
    refine r_iload (q := 187) dL_drawn_185 rfl rfl ?_
    refine r_irem (q := 188) dL_drawn_187 (nI_ne0 (by omega) (by omega)) rfl ?_
    rw [pk_rem (d := (1 + cc / 2 ^ 16 % 4)) (show dd / 2 ^ 4 < 2 ^ 31 by omega) (by omega) (by omega)]
    refine r_istore (q := 190) dL_drawn_188 (Nat.le_of_ble_eq_true rfl) (xone_of rfl) rfl ?_
    refine r_iload (q := 192) dL_drawn_190 rfl rfl ?_
    refine r_bipush (q := 194) (v := 7) dL_drawn_192 (by decide) rfl ?_
    refine r_iushr (q := 195) dL_drawn_194 rfl ?_
    rw [pk_ushrN (show dd < 2 ^ 32 by omega) 7 7 (by decide)]
    refine r_iload_n (q := 196) dL_drawn_195 rfl rfl rfl ?_
    refine r_irem (q := 197) dL_drawn_196 (nI_ne0 (by omega) (by omega)) rfl ?_
    rw [pk_rem (d := (2 + cc % 5)) (show dd / 2 ^ 7 < 2 ^ 31 by omega) (by omega) (by omega)]
    refine r_istore (q := 199) dL_drawn_197 (Nat.le_of_ble_eq_true rfl) (xone_of rfl) rfl ?_
    refine r_iload (q := 201) dL_drawn_199 rfl rfl ?_
    have KX : ∀ (w : xW) (h : xHi) (r : Int32) (k n : Nat), DS (3360 + 240 * (i + 1)) (i + 1) h (2 + cc % 5) (1 + cc / 2 ^ 16 % 4) (1 + cc / 2 ^ 19 % 4) r → HI E w x h → sa = E.2.2.1 → k ≤ 430 + 3 * i + 1 → n ≤ 4110 + 18 * i + 6 → WF M_L_drawn E Po w0 480 [some (.ref sa), some (.ref x), some (.int (nI cc)), some (.int (nI (2 + cc % 5))), some (.int (nI (1 + cc / 2 ^ 16 % 4))), some (.int (nI (1 + cc / 2 ^ 19 % 4))), some (.int (nI (14 + cc / 2 ^ 22 % 40))), some (.int (nI i)), some (.int (nI dd)), some (.int (nI (dd / 2 ^ 4 % (1 + cc / 2 ^ 16 % 4)))), some (.int (nI (dd / 2 ^ 7 % (2 + cc % 5)))), some (.int r)] [] w k n := fun w h r k n D H S hk hn =>
      dw_j (by omega) D H S hk hn (fun w k n H S hk hn => ih (i + 1) w h k n _ _ _ _ D.1 H S hk hn (by omega))
    have ht : dd / 2 ^ 4 % (1 + cc / 2 ^ 16 % 4) < n2 (h.1 0) := by rw [D.2.2.2.2.2.1]; exact Nat.mod_lt _ (by omega)
    have hb : dd / 2 ^ 7 % (2 + cc % 5) < n1 (h.1 0) := by rw [D.2.2.2.2.1]; exact Nat.mod_lt _ (by omega)
    have hg : dd / 2 ^ 7 % (1 + cc / 2 ^ 19 % 4) < n3 (h.1 0) := by rw [D.2.2.2.2.2.2]; exact Nat.mod_lt _ (by omega)
    have J := D.1
    have G := D.2.1
    refine r_bipush (q := 203) (v := 15) dL_drawn_201 (by decide) rfl ?_
    refine r_irem (q := 204) dL_drawn_203 (by decide) rfl ?_
    generalize nI dd - nI dd / 15 * 15 = z9
    by_cases e0 : z9 = 0
    · rw [e0]
      refine r_tableIn (off := 64) (q := 268) dL_drawn_204 (by decide) (by decide) (by decide) (by decide) ?_
      refine r_aload_n (q := 269) dL_drawn_268 rfl rfl rfl ?_
      refine r_iload (q := 271) dL_drawn_269 rfl rfl ?_
      refine r_iload (q := 273) dL_drawn_271 rfl rfl ?_
      refine r_callSH (q := 276) (k2 := k + 1) (n2 := n + 6) (As := [_, _, _]) dL_drawn_273 s_L_drawn_137 rfl rfl (Nat.le_of_ble_eq_true rfl) rfl rfl rfl (show k + 1 ≤ 1200 by omega) (show n + 6 ≤ 9000 by omega) ⟨(show k + 1 ≤ 1200 by omega), (show n + 6 ≤ 9000 by omega)⟩ rfl ?_
      refine ld_out J G (dr_out J G (by omega) hb ht) H (fun u1 h1 r1 Q1 N1 H1 F1 => ?_)
      have S1 := S
      have DS1 := ds_m (ds_of D Q1 N1) (show _ ≤ i + 1 by omega)
      show WF _ E Po _ _ _ _ _ _ _
      refine r_istore (q := 278) dL_drawn_276 (Nat.le_of_ble_eq_true rfl) (xone_of rfl) rfl ?_
      refine r_goto (q := 480) dL_drawn_278 (by decide) ?_
      exact KX _ h1 _ (k + 1) (n + 6) DS1 H1 S1 (by omega) (by omega)
    by_cases e1 : z9 = 1
    · rw [e1]
      refine r_tableIn (off := 64) (q := 268) dL_drawn_204 (by decide) (by decide) (by decide) (by decide) ?_
      refine r_aload_n (q := 269) dL_drawn_268 rfl rfl rfl ?_
      refine r_iload (q := 271) dL_drawn_269 rfl rfl ?_
      refine r_iload (q := 273) dL_drawn_271 rfl rfl ?_
      refine r_callSH (q := 276) (k2 := k + 1) (n2 := n + 6) (As := [_, _, _]) dL_drawn_273 s_L_drawn_137 rfl rfl (Nat.le_of_ble_eq_true rfl) rfl rfl rfl (show k + 1 ≤ 1200 by omega) (show n + 6 ≤ 9000 by omega) ⟨(show k + 1 ≤ 1200 by omega), (show n + 6 ≤ 9000 by omega)⟩ rfl ?_
      refine ld_out J G (dr_out J G (by omega) hb ht) H (fun u1 h1 r1 Q1 N1 H1 F1 => ?_)
      have S1 := S
      have DS1 := ds_m (ds_of D Q1 N1) (show _ ≤ i + 1 by omega)
      show WF _ E Po _ _ _ _ _ _ _
      refine r_istore (q := 278) dL_drawn_276 (Nat.le_of_ble_eq_true rfl) (xone_of rfl) rfl ?_
      refine r_goto (q := 480) dL_drawn_278 (by decide) ?_
      exact KX _ h1 _ (k + 1) (n + 6) DS1 H1 S1 (by omega) (by omega)
    by_cases e2 : z9 = 2
    · rw [e2]
      refine r_tableIn (off := 77) (q := 281) dL_drawn_204 (by decide) (by decide) (by decide) (by decide) ?_
      refine r_aload_n (q := 282) dL_drawn_281 rfl rfl rfl ?_
      refine r_iload (q := 284) dL_drawn_282 rfl rfl ?_
      refine r_callSH (q := 287) (k2 := k + 1) (n2 := n + 6) (As := [_, _]) dL_drawn_284 s_L_drawn_140 rfl rfl (Nat.le_of_ble_eq_true rfl) rfl rfl rfl (show k + 1 ≤ 1200 by omega) (show n + 6 ≤ 9000 by omega) ⟨(show k + 1 ≤ 1200 by omega), (show n + 6 ≤ 9000 by omega)⟩ rfl ?_
      refine ld_back J G (dr_back J G (by omega) hb) H (fun u1 h1 r1 Q1 N1 H1 F1 => ?_)
      have S1 := S
      have DS1 := ds_m (ds_of D Q1 N1) (show _ ≤ i + 1 by omega)
      show WF _ E Po _ _ _ _ _ _ _
      refine r_istore (q := 289) dL_drawn_287 (Nat.le_of_ble_eq_true rfl) (xone_of rfl) rfl ?_
      refine r_goto (q := 480) dL_drawn_289 (by decide) ?_
      exact KX _ h1 _ (k + 1) (n + 6) DS1 H1 S1 (by omega) (by omega)
    by_cases e3 : z9 = 3
    · rw [e3]
      refine r_tableIn (off := 88) (q := 292) dL_drawn_204 (by decide) (by decide) (by decide) (by decide) ?_
      refine r_aload_n (q := 293) dL_drawn_292 rfl rfl rfl ?_
      refine r_iload (q := 295) dL_drawn_293 rfl rfl ?_
      refine r_bipush (q := 297) (v := 7) dL_drawn_295 (by decide) rfl ?_
      refine r_iushr (q := 298) dL_drawn_297 rfl ?_
      rw [pk_ushrN (show dd < 2 ^ 32 by omega) 7 7 (by decide)]
      refine r_iload (q := 300) dL_drawn_298 rfl rfl ?_
      refine r_irem (q := 301) dL_drawn_300 (nI_ne0 (by omega) (by omega)) rfl ?_
      rw [pk_rem (d := (1 + cc / 2 ^ 19 % 4)) (show dd / 2 ^ 7 < 2 ^ 31 by omega) (by omega) (by omega)]
      refine r_iload (q := 303) dL_drawn_301 rfl rfl ?_
      refine r_callSH (q := 306) (k2 := k + 1) (n2 := n + 6) (As := [_, _, _]) dL_drawn_303 s_L_drawn_142 rfl rfl (Nat.le_of_ble_eq_true rfl) rfl rfl rfl (show k + 1 ≤ 1200 by omega) (show n + 6 ≤ 9000 by omega) ⟨(show k + 1 ≤ 1200 by omega), (show n + 6 ≤ 9000 by omega)⟩ rfl ?_
      refine ld_heat J G (dr_heat J G (by omega) hg ht) H (fun u1 h1 r1 Q1 N1 H1 F1 => ?_)
      have S1 := S
      have DS1 := ds_m (ds_of D Q1 N1) (show _ ≤ i + 1 by omega)
      show WF _ E Po _ _ _ _ _ _ _
      refine r_istore (q := 308) dL_drawn_306 (Nat.le_of_ble_eq_true rfl) (xone_of rfl) rfl ?_
      refine r_goto (q := 480) dL_drawn_308 (by decide) ?_
      exact KX _ h1 _ (k + 1) (n + 6) DS1 H1 S1 (by omega) (by omega)
    by_cases e4 : z9 = 4
    · rw [e4]
      refine r_tableIn (off := 88) (q := 292) dL_drawn_204 (by decide) (by decide) (by decide) (by decide) ?_
      refine r_aload_n (q := 293) dL_drawn_292 rfl rfl rfl ?_
      refine r_iload (q := 295) dL_drawn_293 rfl rfl ?_
      refine r_bipush (q := 297) (v := 7) dL_drawn_295 (by decide) rfl ?_
      refine r_iushr (q := 298) dL_drawn_297 rfl ?_
      rw [pk_ushrN (show dd < 2 ^ 32 by omega) 7 7 (by decide)]
      refine r_iload (q := 300) dL_drawn_298 rfl rfl ?_
      refine r_irem (q := 301) dL_drawn_300 (nI_ne0 (by omega) (by omega)) rfl ?_
      rw [pk_rem (d := (1 + cc / 2 ^ 19 % 4)) (show dd / 2 ^ 7 < 2 ^ 31 by omega) (by omega) (by omega)]
      refine r_iload (q := 303) dL_drawn_301 rfl rfl ?_
      refine r_callSH (q := 306) (k2 := k + 1) (n2 := n + 6) (As := [_, _, _]) dL_drawn_303 s_L_drawn_142 rfl rfl (Nat.le_of_ble_eq_true rfl) rfl rfl rfl (show k + 1 ≤ 1200 by omega) (show n + 6 ≤ 9000 by omega) ⟨(show k + 1 ≤ 1200 by omega), (show n + 6 ≤ 9000 by omega)⟩ rfl ?_
      refine ld_heat J G (dr_heat J G (by omega) hg ht) H (fun u1 h1 r1 Q1 N1 H1 F1 => ?_)
      have S1 := S
      have DS1 := ds_m (ds_of D Q1 N1) (show _ ≤ i + 1 by omega)
      show WF _ E Po _ _ _ _ _ _ _
      refine r_istore (q := 308) dL_drawn_306 (Nat.le_of_ble_eq_true rfl) (xone_of rfl) rfl ?_
      refine r_goto (q := 480) dL_drawn_308 (by decide) ?_
      exact KX _ h1 _ (k + 1) (n + 6) DS1 H1 S1 (by omega) (by omega)
    by_cases e5 : z9 = 5
    · rw [e5]
      refine r_tableIn (off := 107) (q := 311) dL_drawn_204 (by decide) (by decide) (by decide) (by decide) ?_
      refine r_iload (q := 313) dL_drawn_311 rfl rfl ?_
      refine r_bipush (q := 315) (v := 30) dL_drawn_313 (by decide) rfl ?_
      refine r_irem (q := 316) dL_drawn_315 (by decide) rfl ?_
      refine r_bipush (q := 318) (v := 15) dL_drawn_316 (by decide) rfl ?_
      refine r_icmp_ge (q := 336) (q2 := 321) dL_drawn_318 (by decide) rfl (fun h318 => ?_) (fun h318 => ?_)
      · refine r_aload_n (q := 337) dL_drawn_336 rfl rfl rfl ?_
        refine r_iload (q := 339) dL_drawn_337 rfl rfl ?_
        refine r_iload (q := 341) dL_drawn_339 rfl rfl ?_
        refine r_bipush (q := 343) (v := 10) dL_drawn_341 (by decide) rfl ?_
        refine r_iushr (q := 344) dL_drawn_343 rfl ?_
        rw [pk_ushrN (show dd < 2 ^ 32 by omega) 10 10 (by decide)]
        refine r_bipush (q := 346) (v := 8) dL_drawn_344 (by decide) rfl ?_
        refine r_irem (q := 347) dL_drawn_346 (by decide) rfl ?_
        rw [show nI (dd / 2 ^ 10) - nI (dd / 2 ^ 10) / 8 * 8 = nI (dd / 2 ^ 10 % 8) from pk_rem (d := 8) (by omega) (by decide) (by decide)]
        refine r_callSH (q := 350) (k2 := k + 1) (n2 := n + 6) (As := [_, _, _]) dL_drawn_347 s_L_drawn_146 rfl rfl (Nat.le_of_ble_eq_true rfl) rfl rfl rfl (show k + 1 ≤ 1200 by omega) (show n + 6 ≤ 9000 by omega) ⟨(show k + 1 ≤ 1200 by omega), (show n + 6 ≤ 9000 by omega)⟩ rfl ?_
        refine ld_tear J G (dr_tear J G hb (show dd / 2 ^ 10 % 8 < 8 by omega)) H (fun u1 h1 r1 Q1 N1 H1 F1 => ?_) (ne_tear J)
        have S1 := S
        have DS1 := ds_m (ds_of D Q1 N1) (show _ ≤ i + 1 by omega)
        show WF _ E Po _ _ _ _ _ _ _
        refine r_istore (q := 352) dL_drawn_350 (Nat.le_of_ble_eq_true rfl) (xone_of rfl) rfl ?_
        refine r_goto (q := 480) dL_drawn_352 (by decide) ?_
        exact KX _ h1 _ (k + 1) (n + 6) DS1 H1 S1 (by omega) (by omega)
      · refine r_aload_n (q := 322) dL_drawn_321 rfl rfl rfl ?_
        refine r_iload (q := 324) dL_drawn_322 rfl rfl ?_
        refine r_bipush (q := 326) (v := 7) dL_drawn_324 (by decide) rfl ?_
        refine r_iushr (q := 327) dL_drawn_326 rfl ?_
        rw [pk_ushrN (show dd < 2 ^ 32 by omega) 7 7 (by decide)]
        refine r_iload (q := 329) dL_drawn_327 rfl rfl ?_
        refine r_irem (q := 330) dL_drawn_329 (nI_ne0 (by omega) (by omega)) rfl ?_
        rw [pk_rem (d := (1 + cc / 2 ^ 19 % 4)) (show dd / 2 ^ 7 < 2 ^ 31 by omega) (by omega) (by omega)]
        refine r_callSH (q := 333) (k2 := k + 1) (n2 := n + 6) (As := [_, _]) dL_drawn_330 s_L_drawn_144 rfl rfl (Nat.le_of_ble_eq_true rfl) rfl rfl rfl (show k + 1 ≤ 1200 by omega) (show n + 6 ≤ 9000 by omega) ⟨(show k + 1 ≤ 1200 by omega), (show n + 6 ≤ 9000 by omega)⟩ rfl ?_
        refine ld_cold J G (dr_cold J G (by omega) hg) H (fun u1 h1 r1 Q1 N1 H1 F1 => ?_)
        have S1 := S
        have DS1 := ds_m (ds_of D Q1 N1) (show _ ≤ i + 1 by omega)
        show WF _ E Po _ _ _ _ _ _ _
        refine r_goto (q := 350) dL_drawn_333 (by decide) ?_
        refine r_istore (q := 352) dL_drawn_350 (Nat.le_of_ble_eq_true rfl) (xone_of rfl) rfl ?_
        refine r_goto (q := 480) dL_drawn_352 (by decide) ?_
        exact KX _ h1 _ (k + 1) (n + 6) DS1 H1 S1 (by omega) (by omega)
    by_cases e6 : z9 = 6
    · rw [e6]
      refine r_tableIn (off := 151) (q := 355) dL_drawn_204 (by decide) (by decide) (by decide) (by decide) ?_
      refine r_aload_n (q := 356) dL_drawn_355 rfl rfl rfl ?_
      refine r_iload (q := 358) dL_drawn_356 rfl rfl ?_
      refine r_callSH (q := 361) (k2 := k + 1) (n2 := n + 6) (As := [_, _]) dL_drawn_358 s_L_drawn_148 rfl rfl (Nat.le_of_ble_eq_true rfl) rfl rfl rfl (show k + 1 ≤ 1200 by omega) (show n + 6 ≤ 9000 by omega) ⟨(show k + 1 ≤ 1200 by omega), (show n + 6 ≤ 9000 by omega)⟩ rfl ?_
      refine ld_join J (G.mono (Nat.le_succ i)) (dr_join J G (by omega) (by omega) ht) H (fun u1 h1 r1 Q1 N1 H1 F1 => ?_)
      have S1 := S
      have DS1 := ds_m (ds_of D Q1 N1) (show _ ≤ i + 1 by omega)
      show WF _ E Po _ _ _ _ _ _ _
      refine r_istore (q := 363) dL_drawn_361 (Nat.le_of_ble_eq_true rfl) (xone_of rfl) rfl ?_
      refine r_goto (q := 480) dL_drawn_363 (by decide) ?_
      exact KX _ h1 _ (k + 1) (n + 6) DS1 H1 S1 (by omega) (by omega)
    by_cases e7 : z9 = 7
    · rw [e7]
      refine r_tableIn (off := 151) (q := 355) dL_drawn_204 (by decide) (by decide) (by decide) (by decide) ?_
      refine r_aload_n (q := 356) dL_drawn_355 rfl rfl rfl ?_
      refine r_iload (q := 358) dL_drawn_356 rfl rfl ?_
      refine r_callSH (q := 361) (k2 := k + 1) (n2 := n + 6) (As := [_, _]) dL_drawn_358 s_L_drawn_148 rfl rfl (Nat.le_of_ble_eq_true rfl) rfl rfl rfl (show k + 1 ≤ 1200 by omega) (show n + 6 ≤ 9000 by omega) ⟨(show k + 1 ≤ 1200 by omega), (show n + 6 ≤ 9000 by omega)⟩ rfl ?_
      refine ld_join J (G.mono (Nat.le_succ i)) (dr_join J G (by omega) (by omega) ht) H (fun u1 h1 r1 Q1 N1 H1 F1 => ?_)
      have S1 := S
      have DS1 := ds_m (ds_of D Q1 N1) (show _ ≤ i + 1 by omega)
      show WF _ E Po _ _ _ _ _ _ _
      refine r_istore (q := 363) dL_drawn_361 (Nat.le_of_ble_eq_true rfl) (xone_of rfl) rfl ?_
      refine r_goto (q := 480) dL_drawn_363 (by decide) ?_
      exact KX _ h1 _ (k + 1) (n + 6) DS1 H1 S1 (by omega) (by omega)
    by_cases e8 : z9 = 8
    · rw [e8]
      refine r_tableIn (off := 151) (q := 355) dL_drawn_204 (by decide) (by decide) (by decide) (by decide) ?_
      refine r_aload_n (q := 356) dL_drawn_355 rfl rfl rfl ?_
      refine r_iload (q := 358) dL_drawn_356 rfl rfl ?_
      refine r_callSH (q := 361) (k2 := k + 1) (n2 := n + 6) (As := [_, _]) dL_drawn_358 s_L_drawn_148 rfl rfl (Nat.le_of_ble_eq_true rfl) rfl rfl rfl (show k + 1 ≤ 1200 by omega) (show n + 6 ≤ 9000 by omega) ⟨(show k + 1 ≤ 1200 by omega), (show n + 6 ≤ 9000 by omega)⟩ rfl ?_
      refine ld_join J (G.mono (Nat.le_succ i)) (dr_join J G (by omega) (by omega) ht) H (fun u1 h1 r1 Q1 N1 H1 F1 => ?_)
      have S1 := S
      have DS1 := ds_m (ds_of D Q1 N1) (show _ ≤ i + 1 by omega)
      show WF _ E Po _ _ _ _ _ _ _
      refine r_istore (q := 363) dL_drawn_361 (Nat.le_of_ble_eq_true rfl) (xone_of rfl) rfl ?_
      refine r_goto (q := 480) dL_drawn_363 (by decide) ?_
      exact KX _ h1 _ (k + 1) (n + 6) DS1 H1 S1 (by omega) (by omega)
    by_cases e9 : z9 = 9
    · rw [e9]
      refine r_tableIn (off := 162) (q := 366) dL_drawn_204 (by decide) (by decide) (by decide) (by decide) ?_
      refine r_aload_n (q := 367) dL_drawn_366 rfl rfl rfl ?_
      refine r_iload (q := 369) dL_drawn_367 rfl rfl ?_
      refine r_iload (q := 371) dL_drawn_369 rfl rfl ?_
      refine r_bipush (q := 373) (v := 10) dL_drawn_371 (by decide) rfl ?_
      refine r_iushr (q := 374) dL_drawn_373 rfl ?_
      rw [pk_ushrN (show dd < 2 ^ 32 by omega) 10 10 (by decide)]
      refine r_bipush (q := 376) (v := 8) dL_drawn_374 (by decide) rfl ?_
      refine r_irem (q := 377) dL_drawn_376 (by decide) rfl ?_
      rw [show nI (dd / 2 ^ 10) - nI (dd / 2 ^ 10) / 8 * 8 = nI (dd / 2 ^ 10 % 8) from pk_rem (d := 8) (by omega) (by decide) (by decide)]
      refine r_callSH (q := 380) (k2 := k + 1) (n2 := n + 6) (As := [_, _, _]) dL_drawn_377 s_L_drawn_150 rfl rfl (Nat.le_of_ble_eq_true rfl) rfl rfl rfl (show k + 1 ≤ 1200 by omega) (show n + 6 ≤ 9000 by omega) ⟨(show k + 1 ≤ 1200 by omega), (show n + 6 ≤ 9000 by omega)⟩ rfl ?_
      refine ld_mend J G (dr_mend J G (by omega) hb (show dd / 2 ^ 10 % 8 < 8 by omega)) H (fun u1 h1 r1 Q1 N1 H1 F1 => ?_)
      have S1 := S
      have DS1 := ds_m (ds_of D Q1 N1) (show _ ≤ i + 1 by omega)
      show WF _ E Po _ _ _ _ _ _ _
      refine r_istore (q := 382) dL_drawn_380 (Nat.le_of_ble_eq_true rfl) (xone_of rfl) rfl ?_
      refine r_goto (q := 480) dL_drawn_382 (by decide) ?_
      exact KX _ h1 _ (k + 1) (n + 6) DS1 H1 S1 (by omega) (by omega)
    by_cases e10 : z9 = 10
    · rw [e10]
      refine r_tableIn (off := 181) (q := 385) dL_drawn_204 (by decide) (by decide) (by decide) (by decide) ?_
      refine r_aload_n (q := 386) dL_drawn_385 rfl rfl rfl ?_
      refine r_iconst (q := 387) (v := 1) dL_drawn_386 rfl rfl ?_
      refine r_iload (q := 389) dL_drawn_387 rfl rfl ?_
      refine r_bipush (q := 391) (v := 7) dL_drawn_389 (by decide) rfl ?_
      refine r_iushr (q := 392) dL_drawn_391 rfl ?_
      rw [pk_ushrN (show dd < 2 ^ 32 by omega) 7 7 (by decide)]
      refine r_iconst (q := 393) (v := 4) dL_drawn_392 rfl rfl ?_
      refine r_irem (q := 394) dL_drawn_393 (by decide) rfl ?_
      rw [show nI (dd / 2 ^ 7) - nI (dd / 2 ^ 7) / 4 * 4 = nI (dd / 2 ^ 7 % 4) from pk_rem (d := 4) (by omega) (by decide) (by decide)]
      refine r_iadd (q := 395) dL_drawn_394 rfl ?_
      rw [show (1 : Int32) + nI (dd / 2 ^ 7 % 4) = nI (1 + dd / 2 ^ 7 % 4) from nI_add 1 _]
      refine r_callSH (q := 398) (k2 := k + 1) (n2 := n + 6) (As := [_, _]) dL_drawn_395 s_L_drawn_152 rfl rfl (Nat.le_of_ble_eq_true rfl) rfl rfl rfl (show k + 1 ≤ 1200 by omega) (show n + 6 ≤ 9000 by omega) ⟨(show k + 1 ≤ 1200 by omega), (show n + 6 ≤ 9000 by omega)⟩ rfl ?_
      refine ld_wash J G (dr_wash J G (by omega) (show 1 ≤ 1 + dd / 2 ^ 7 % 4 by omega) (by omega)) H (fun u1 h1 r1 Q1 N1 H1 F1 => ?_)
      have S1 := S
      have DS1 := ds_m (ds_of D Q1 N1) (show _ ≤ i + 1 by omega)
      show WF _ E Po _ _ _ _ _ _ _
      refine r_istore (q := 400) dL_drawn_398 (Nat.le_of_ble_eq_true rfl) (xone_of rfl) rfl ?_
      refine r_goto (q := 480) dL_drawn_400 (by decide) ?_
      exact KX _ h1 _ (k + 1) (n + 6) DS1 H1 S1 (by omega) (by omega)
    by_cases e11 : z9 = 11
    · rw [e11]
      refine r_tableIn (off := 199) (q := 403) dL_drawn_204 (by decide) (by decide) (by decide) (by decide) ?_
      refine r_iload (q := 405) dL_drawn_403 rfl rfl ?_
      refine r_bipush (q := 407) (v := 30) dL_drawn_405 (by decide) rfl ?_
      refine r_irem (q := 408) dL_drawn_407 (by decide) rfl ?_
      refine r_bipush (q := 410) (v := 15) dL_drawn_408 (by decide) rfl ?_
      refine r_icmp_ge (q := 429) (q2 := 413) dL_drawn_410 (by decide) rfl (fun h410 => ?_) (fun h410 => ?_)
      · refine r_aload_n (q := 430) dL_drawn_429 rfl rfl rfl ?_
        refine r_iload (q := 432) dL_drawn_430 rfl rfl ?_
        refine r_bipush (q := 434) (v := 7) dL_drawn_432 (by decide) rfl ?_
        refine r_iushr (q := 435) dL_drawn_434 rfl ?_
        rw [pk_ushrN (show dd < 2 ^ 32 by omega) 7 7 (by decide)]
        refine r_iload (q := 437) dL_drawn_435 rfl rfl ?_
        refine r_irem (q := 438) dL_drawn_437 (nI_ne0 (by omega) (by omega)) rfl ?_
        rw [pk_rem (d := (1 + cc / 2 ^ 19 % 4)) (show dd / 2 ^ 7 < 2 ^ 31 by omega) (by omega) (by omega)]
        refine r_iconst (q := 439) (v := 1) dL_drawn_438 rfl rfl ?_
        refine r_iload (q := 441) dL_drawn_439 rfl rfl ?_
        refine r_bipush (q := 443) (v := 9) dL_drawn_441 (by decide) rfl ?_
        refine r_iushr (q := 444) dL_drawn_443 rfl ?_
        rw [pk_ushrN (show dd < 2 ^ 32 by omega) 9 9 (by decide)]
        refine r_iconst (q := 445) (v := 3) dL_drawn_444 rfl rfl ?_
        refine r_irem (q := 446) dL_drawn_445 (by decide) rfl ?_
        rw [show nI (dd / 2 ^ 9) - nI (dd / 2 ^ 9) / 3 * 3 = nI (dd / 2 ^ 9 % 3) from pk_rem (d := 3) (by omega) (by decide) (by decide)]
        refine r_iadd (q := 447) dL_drawn_446 rfl ?_
        rw [show (1 : Int32) + nI (dd / 2 ^ 9 % 3) = nI (1 + dd / 2 ^ 9 % 3) from nI_add 1 _]
        refine r_callSH (q := 450) (k2 := k + 1) (n2 := n + 6) (As := [_, _, _]) dL_drawn_447 s_L_drawn_156 rfl rfl (Nat.le_of_ble_eq_true rfl) rfl rfl rfl (show k + 1 ≤ 1200 by omega) (show n + 6 ≤ 9000 by omega) ⟨(show k + 1 ≤ 1200 by omega), (show n + 6 ≤ 9000 by omega)⟩ rfl ?_
        refine ld_gas J G (dr_gas J G (by omega) hg (show 1 ≤ 1 + dd / 2 ^ 9 % 3 by omega) (by omega)) H (fun u1 h1 r1 Q1 N1 H1 F1 => ?_)
        have S1 := S
        have DS1 := ds_m (ds_of D Q1 N1) (show _ ≤ i + 1 by omega)
        show WF _ E Po _ _ _ _ _ _ _
        refine r_iconst (q := 451) (v := (-1)) dL_drawn_450 rfl rfl ?_
        refine r_icmp_ge (q := 459) (q2 := 454) dL_drawn_451 (by decide) rfl (fun q => ?_) (fun q => ?_)
        · have DS1 := ds_g0 DS1
          refine r_iconst (q := 460) (v := 0) dL_drawn_459 rfl rfl ?_
          refine r_istore (q := 462) dL_drawn_460 (Nat.le_of_ble_eq_true rfl) (xone_of rfl) rfl ?_
          refine r_goto (q := 480) dL_drawn_462 (by decide) ?_
          exact KX _ h1 _ (k + 1) (n + 6) DS1 H1 S1 (by omega) (by omega)
        · have DS1 := ds_g1 DS1 q
          refine r_bipush (q := 456) (v := (-2)) dL_drawn_454 (by decide) rfl ?_
          refine r_goto (q := 460) dL_drawn_456 (by decide) ?_
          refine r_istore (q := 462) dL_drawn_460 (Nat.le_of_ble_eq_true rfl) (xone_of rfl) rfl ?_
          refine r_goto (q := 480) dL_drawn_462 (by decide) ?_
          exact KX _ h1 _ (k + 1) (n + 6) DS1 H1 S1 (by omega) (by omega)
      · refine r_aload_n (q := 414) dL_drawn_413 rfl rfl rfl ?_
        refine r_iconst (q := 415) (v := 1) dL_drawn_414 rfl rfl ?_
        refine r_iload (q := 417) dL_drawn_415 rfl rfl ?_
        refine r_bipush (q := 419) (v := 7) dL_drawn_417 (by decide) rfl ?_
        refine r_iushr (q := 420) dL_drawn_419 rfl ?_
        rw [pk_ushrN (show dd < 2 ^ 32 by omega) 7 7 (by decide)]
        refine r_iconst (q := 421) (v := 3) dL_drawn_420 rfl rfl ?_
        refine r_irem (q := 422) dL_drawn_421 (by decide) rfl ?_
        rw [show nI (dd / 2 ^ 7) - nI (dd / 2 ^ 7) / 3 * 3 = nI (dd / 2 ^ 7 % 3) from pk_rem (d := 3) (by omega) (by decide) (by decide)]
        refine r_iadd (q := 423) dL_drawn_422 rfl ?_
        rw [show (1 : Int32) + nI (dd / 2 ^ 7 % 3) = nI (1 + dd / 2 ^ 7 % 3) from nI_add 1 _]
        refine r_callSH (q := 426) (k2 := k + 1) (n2 := n + 6) (As := [_, _]) dL_drawn_423 s_L_drawn_154 rfl rfl (Nat.le_of_ble_eq_true rfl) rfl rfl rfl (show k + 1 ≤ 1200 by omega) (show n + 6 ≤ 9000 by omega) ⟨(show k + 1 ≤ 1200 by omega), (show n + 6 ≤ 9000 by omega)⟩ rfl ?_
        refine ld_soap J G (dr_soap J G (by omega) (show 1 ≤ 1 + dd / 2 ^ 7 % 3 by omega) (by omega)) H (fun u1 h1 r1 Q1 N1 H1 F1 => ?_)
        have S1 := S
        have DS1 := ds_m (ds_of D Q1 N1) (show _ ≤ i + 1 by omega)
        show WF _ E Po _ _ _ _ _ _ _
        refine r_goto (q := 460) dL_drawn_426 (by decide) ?_
        refine r_istore (q := 462) dL_drawn_460 (Nat.le_of_ble_eq_true rfl) (xone_of rfl) rfl ?_
        refine r_goto (q := 480) dL_drawn_462 (by decide) ?_
        exact KX _ h1 _ (k + 1) (n + 6) DS1 H1 S1 (by omega) (by omega)
    refine r_tableOut (q := 465) dL_drawn_204 (sw_out 11 (by decide) (fun k hk => by rcases (show k = 0 ∨ k = 1 ∨ k = 2 ∨ k = 3 ∨ k = 4 ∨ k = 5 ∨ k = 6 ∨ k = 7 ∨ k = 8 ∨ k = 9 ∨ k = 10 ∨ k = 11 by omega) with rfl | rfl | rfl | rfl | rfl | rfl | rfl | rfl | rfl | rfl | rfl | rfl <;> assumption)) (by decide) ?_
    refine r_aload_n (q := 466) dL_drawn_465 rfl rfl rfl ?_
    refine r_iconst (q := 467) (v := 1) dL_drawn_466 rfl rfl ?_
    refine r_iload (q := 469) dL_drawn_467 rfl rfl ?_
    refine r_iconst (q := 470) (v := 4) dL_drawn_469 rfl rfl ?_
    refine r_iushr (q := 471) dL_drawn_470 rfl ?_
    rw [pk_ushrN (show dd < 2 ^ 32 by omega) 4 4 (by decide)]
    refine r_bipush (q := 473) (v := 9) dL_drawn_471 (by decide) rfl ?_
    refine r_irem (q := 474) dL_drawn_473 (by decide) rfl ?_
    rw [show nI (dd / 2 ^ 4) - nI (dd / 2 ^ 4) / 9 * 9 = nI (dd / 2 ^ 4 % 9) from pk_rem (d := 9) (by omega) (by decide) (by decide)]
    refine r_iadd (q := 475) dL_drawn_474 rfl ?_
    rw [show (1 : Int32) + nI (dd / 2 ^ 4 % 9) = nI (1 + dd / 2 ^ 4 % 9) from nI_add 1 _]
    refine r_callSH (q := 478) (k2 := k + 1) (n2 := n + 6) (As := [_, _]) dL_drawn_475 s_L_drawn_158 rfl rfl (Nat.le_of_ble_eq_true rfl) rfl rfl rfl (show k + 1 ≤ 1200 by omega) (show n + 6 ≤ 9000 by omega) ⟨(show k + 1 ≤ 1200 by omega), (show n + 6 ≤ 9000 by omega)⟩ rfl ?_
    refine ld_pass J G (dr_pass J G (by omega) (by omega) (show 1 ≤ 1 + dd / 2 ^ 4 % 9 by omega) (by omega)) H (fun u1 h1 r1 Q1 N1 H1 F1 => ?_) (ne_pass J (by omega))
    have S1 := S
    have DS1 := ds_m (ds_of D Q1 N1) (show _ ≤ i + 1 by omega)
    show WF _ E Po _ _ _ _ _ _ _
    refine r_istore (q := 480) dL_drawn_478 (Nat.le_of_ble_eq_true rfl) (xone_of rfl) rfl ?_
    exact KX _ h1 _ (k + 1) (n + 6) DS1 H1 S1 (by omega) (by omega)
set_option maxRecDepth 100000 in
set_option maxHeartbeats 4000000 in
theorem ct_L_drawn {E : xE} {Po : xPo} {w : xW} {sa : Nat} (hN : E.2.2.2.1 < 2147483648) (S : sa = E.2.2.1) (hp : ∀ (u : xW) (x : Nat) (h : xHi), HI E u x h → J9 20000 (h.1 0) → GQ 60 (h.1 0) → CN h → hasL h.2.2.2.2 [] → sa = E.2.2.1 → Po (.inl (some (.ref x))) u) : Ct M_L_drawn E [.ref sa] w Po := by
  refine Ct.of (ws2 := xAll) (L := [some (.ref sa), none, none, none, none, none, none, none, none, none, none, none]) (by decide +kernel) rfl rfl (List.forall_mem_cons.mpr ⟨rfl, fun _ h => absurd h List.not_mem_nil⟩) (Nat.le_of_ble_eq_true rfl) rfl ?_
  refine r_new (q := 3) dL_drawn_0 nw_L_drawn_9 (show 0 + 1 ≤ 1200 by omega) (show 0 + 8 ≤ 9000 by omega) rfl ?_
  refine r_dup (q := 4) dL_drawn_3 rfl rfl ?_
  refine r_callI (q := 7) (k2 := 0 + 401) (n2 := 0 + 4008) (As := []) dL_drawn_4 s_L_drawn_125 rfl (Nat.le_of_ble_eq_true rfl) rfl rfl rfl ⟨(show 0 + 401 ≤ 1200 by omega), (show 0 + 4008 ≤ 9000 by omega)⟩ rfl ?_
  refine ct_X9_init (x := w.2) rfl xadd_s ?_
  have H := hi_init (E := E) (w := xadd w (.inr (11, [.null, .null, .null, .null, .null, .null, .int 0, .int 0]))) (x := w.2)
  show WF _ E Po _ _ _ _ _ _ _
  refine r_astore_n (q := 8) dL_drawn_7 rfl (Nat.le_of_ble_eq_true rfl) (xone_of rfl) rfl ?_
  refine r_aload_n (q := 9) dL_drawn_8 rfl rfl rfl ?_
  refine r_iconst (q := 10) (v := 0) dL_drawn_9 rfl rfl ?_
  refine r_callS (q := 13) (k2 := 0 + 401) (n2 := 0 + 4008) (As := [_, _]) dL_drawn_10 s_L_drawn_126 rfl rfl (Nat.le_of_ble_eq_true rfl) rfl rfl rfl (show 0 + 401 ≤ 1200 by omega) (show 0 + 4008 ≤ 9000 by omega) ⟨(show 0 + 401 ≤ 1200 by omega), (show 0 + 4008 ≤ 9000 by omega)⟩ rfl ?_
  refine ct_L_cell (i := 0) S hN (by decide) (fun v => ?_)
  show WF _ E Po _ _ _ _ _ _ _
  refine r_iconst (q := 14) (v := 1) dL_drawn_13 rfl rfl ?_
  refine r_iushr (q := 15) dL_drawn_14 rfl ?_
  obtain ⟨cc, hcc, ec⟩ := us_1 v
  rw [ec]
  refine r_istore_n (q := 16) dL_drawn_15 rfl (Nat.le_of_ble_eq_true rfl) (xone_of rfl) rfl ?_
  refine r_iconst (q := 17) (v := 2) dL_drawn_16 rfl rfl ?_
  refine r_iload_n (q := 18) dL_drawn_17 rfl rfl rfl ?_
  refine r_iconst (q := 19) (v := 5) dL_drawn_18 rfl rfl ?_
  refine r_irem (q := 20) dL_drawn_19 (by decide) rfl ?_
  rw [show nI (cc) - nI (cc) / 5 * 5 = nI (cc % 5) from pk_rem (d := 5) (by omega) (by decide) (by decide)]
  refine r_iadd (q := 21) dL_drawn_20 rfl ?_
  rw [show (2 : Int32) + nI (cc % 5) = nI (2 + cc % 5) from nI_add 2 _]
  refine r_istore_n (q := 22) dL_drawn_21 rfl (Nat.le_of_ble_eq_true rfl) (xone_of rfl) rfl ?_
  refine r_iconst (q := 23) (v := 0) dL_drawn_22 rfl rfl ?_
  refine r_istore (q := 25) dL_drawn_23 (Nat.le_of_ble_eq_true rfl) (xone_of rfl) rfl ?_
  refine dw_1 hN hcc ?_ (2 + cc % 5) 0 _ (h9 w.2) (0 + 401) (0 + 4008) none none none none none none none ⟨j9_0, gq_0, ⟨0, by decide, rfl⟩, ⟨rfl, Nat.zero_le _, ⟨Or.inl rfl, (by decide : 16 ≤ 125)⟩, fun j hj => absurd hj (Nat.not_lt_zero j), fun y hy => absurd hy List.not_mem_nil, fun j => rfl⟩, rfl, rfl, rfl⟩ H S (by omega) (by omega) (by omega)
  intro w h k n o4 o5 o6 o7 o8 o9 o10 o11 D H S hk hn
  refine r_iconst (q := 61) (v := 1) dL_drawn_60 rfl rfl ?_
  refine r_iload_n (q := 62) dL_drawn_61 rfl rfl rfl ?_
  refine r_bipush (q := 64) (v := 16) dL_drawn_62 (by decide) rfl ?_
  refine r_iushr (q := 65) dL_drawn_64 rfl ?_
  rw [pk_ushrN (show cc < 2 ^ 32 by omega) 16 16 (by decide)]
  refine r_iconst (q := 66) (v := 4) dL_drawn_65 rfl rfl ?_
  refine r_irem (q := 67) dL_drawn_66 (by decide) rfl ?_
  rw [show nI (cc / 2 ^ 16) - nI (cc / 2 ^ 16) / 4 * 4 = nI (cc / 2 ^ 16 % 4) from pk_rem (d := 4) (by omega) (by decide) (by decide)]
  refine r_iadd (q := 68) dL_drawn_67 rfl ?_
  rw [show (1 : Int32) + nI (cc / 2 ^ 16 % 4) = nI (1 + cc / 2 ^ 16 % 4) from nI_add 1 _]
  refine r_istore (q := 70) dL_drawn_68 (Nat.le_of_ble_eq_true rfl) (xone_of rfl) rfl ?_
  refine r_iconst (q := 71) (v := 0) dL_drawn_70 rfl rfl ?_
  refine r_istore (q := 73) dL_drawn_71 (Nat.le_of_ble_eq_true rfl) (xone_of rfl) rfl ?_
  refine dw_2 hN hcc ?_ (1 + cc / 2 ^ 16 % 4) 0 _ h (k) (n) _ _ _ _ _ _ (D.mono (by omega) (Nat.le_refl _)) H S (by omega) (by omega) (by omega)
  intro w h k n o5 o6 o7 o8 o9 o10 o11 D H S hk hn
  refine r_iconst (q := 111) (v := 1) dL_drawn_110 rfl rfl ?_
  refine r_iload_n (q := 112) dL_drawn_111 rfl rfl rfl ?_
  refine r_bipush (q := 114) (v := 19) dL_drawn_112 (by decide) rfl ?_
  refine r_iushr (q := 115) dL_drawn_114 rfl ?_
  rw [pk_ushrN (show cc < 2 ^ 32 by omega) 19 19 (by decide)]
  refine r_iconst (q := 116) (v := 4) dL_drawn_115 rfl rfl ?_
  refine r_irem (q := 117) dL_drawn_116 (by decide) rfl ?_
  rw [show nI (cc / 2 ^ 19) - nI (cc / 2 ^ 19) / 4 * 4 = nI (cc / 2 ^ 19 % 4) from pk_rem (d := 4) (by omega) (by decide) (by decide)]
  refine r_iadd (q := 118) dL_drawn_117 rfl ?_
  rw [show (1 : Int32) + nI (cc / 2 ^ 19 % 4) = nI (1 + cc / 2 ^ 19 % 4) from nI_add 1 _]
  refine r_istore (q := 120) dL_drawn_118 (Nat.le_of_ble_eq_true rfl) (xone_of rfl) rfl ?_
  refine r_iconst (q := 121) (v := 0) dL_drawn_120 rfl rfl ?_
  refine r_istore (q := 123) dL_drawn_121 (Nat.le_of_ble_eq_true rfl) (xone_of rfl) rfl ?_
  refine dw_3 hN hcc ?_ (1 + cc / 2 ^ 19 % 4) 0 _ h (k) (n) _ _ _ _ _ (D.mono (by omega) (Nat.le_refl _)) H S (by omega) (by omega) (by omega)
  intro w h k n o6 o7 o8 o9 o10 o11 D H S hk hn
  refine r_bipush (q := 149) (v := 14) dL_drawn_147 (by decide) rfl ?_
  refine r_iload_n (q := 150) dL_drawn_149 rfl rfl rfl ?_
  refine r_bipush (q := 152) (v := 22) dL_drawn_150 (by decide) rfl ?_
  refine r_iushr (q := 153) dL_drawn_152 rfl ?_
  rw [pk_ushrN (show cc < 2 ^ 32 by omega) 22 22 (by decide)]
  refine r_bipush (q := 155) (v := 40) dL_drawn_153 (by decide) rfl ?_
  refine r_irem (q := 156) dL_drawn_155 (by decide) rfl ?_
  rw [show nI (cc / 2 ^ 22) - nI (cc / 2 ^ 22) / 40 * 40 = nI (cc / 2 ^ 22 % 40) from pk_rem (d := 40) (by omega) (by decide) (by decide)]
  refine r_iadd (q := 157) dL_drawn_156 rfl ?_
  rw [show (14 : Int32) + nI (cc / 2 ^ 22 % 40) = nI (14 + cc / 2 ^ 22 % 40) from nI_add 14 _]
  refine r_istore (q := 159) dL_drawn_157 (Nat.le_of_ble_eq_true rfl) (xone_of rfl) rfl ?_
  refine r_iconst (q := 160) (v := 0) dL_drawn_159 rfl rfl ?_
  refine r_istore (q := 162) dL_drawn_160 (Nat.le_of_ble_eq_true rfl) (xone_of rfl) rfl ?_
  exact dw_4 hN hcc (fun u h => hp u _ h) (14 + cc / 2 ^ 22 % 40) 0 _ h (k) (n) _ _ _ _ (D.mono (by omega) (Nat.le_refl _)) H S (by omega) (by omega) (by omega)
