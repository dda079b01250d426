/-! ===== 60.changes: the changes, as they are drawn and as they are undone (laid by wip/p39/gen/make59.py) ===== -/
def EQ9 (c e : xCo) : Prop := (∀ k, k < 10 → e.1 k = c.1 k) ∧ (∀ i, i < 8 → e.2.1 i = c.2.1 i) ∧ (∀ i, i < 5 → e.2.2.1 i = c.2.2.1 i) ∧ (∀ i, i < 4 → e.2.2.2 i = c.2.2.2 i)
theorem eq_cp {c p : xCo} : EQ9 p (cpS c p) := ⟨fun _ h => if_pos h, fun _ h => if_pos h, fun _ h => if_pos h, fun _ h => if_pos h⟩
theorem EQ9.n {c e : xCo} (h : EQ9 c e) : n1 e = n1 c ∧ n2 e = n2 c ∧ n3 e = n3 c := ⟨congrArg Int32.toNatClampNeg (h.1 1 (by decide)), congrArg Int32.toNatClampNeg (h.1 2 (by decide)), congrArg Int32.toNatClampNeg (h.1 3 (by decide))⟩
theorem R9.eq {c d c2 d2 : xCo} (R : R9 c d) (N : JN c) (hc : EQ9 c c2) (hd : EQ9 d d2) : R9 c2 d2 := by
  obtain ⟨e1, e2, e3⟩ := hc.n
  obtain ⟨⟨-, b1⟩, ⟨-, b2⟩, -, b3⟩ := N
  unfold R9
  rw [e1, e2, e3]
  refine ⟨fun k hk => ?_, fun j hj => ?_, fun u hu k hk => ?_, fun g hg k hk => ?_⟩
  · rw [hc.1 k hk, hd.1 k hk]; exact R.1 k hk
  · rw [hc.2.1 j (by omega), hd.2.1 j (by omega)]; exact R.2.1 j hj
  · rw [hc.2.2.1 u (by omega), hd.2.2.1 u (by omega)]; exact R.2.2.1 u hu k hk
  · rw [hc.2.2.2 g (by omega), hd.2.2.2 g (by omega)]; exact R.2.2.2 g hg k hk
theorem J9.eq {K : Nat} {c e : xCo} (J : J9 K c) (h : EQ9 c e) : J9 K e := by
  obtain ⟨e1, e2, e3⟩ := h.n
  obtain ⟨a, b, t, u, g, ⟨l1, l2, l3, l4⟩, ⟨f1, f2, f3⟩, z⟩ := J
  obtain ⟨h1, h2, h3, h4⟩ := h
  obtain ⟨⟨-, b1⟩, ⟨-, b2⟩, -, b3⟩ := id a
  refine ⟨?_, b.ext h1, fun j hj => by rw [h2 j hj]; exact t j hj, fun j hj => by rw [h3 j hj]; exact u j hj, fun j hj => by rw [h4 j hj]; exact g j hj, ⟨fun j hj => ?_, fun j hj => ?_, fun j hj => ?_, fun j hj => ?_⟩, ⟨fun j q hj => ?_, fun j q hj => ?_, fun j q hj => ?_⟩, fun j hj => ?_⟩
  · unfold JN
    rw [e1, e2, e3, h1 1 (by decide), h1 2 (by decide), h1 3 (by decide)]
    exact a
  · rw [h2 j hj, e2]
    rcases l1 j hj with y | ⟨v, y1, y2, y3⟩
    · exact Or.inl y
    · exact Or.inr ⟨v, y1, y2, by rw [h3 v (by omega)]; exact y3⟩
  · rw [h3 j hj, e1]
    rcases l2 j hj with y | ⟨v, y1, y2, y3⟩
    · exact Or.inl y
    · exact Or.inr ⟨v, y1, y2, by rw [h2 v (by omega)]; exact y3⟩
  · rw [h3 j hj, e3]
    rcases l3 j hj with y | ⟨v, y1, y2, y3⟩
    · exact Or.inl y
    · exact Or.inr ⟨v, y1, y2, by rw [h4 v (by omega)]; exact y3⟩
  · rw [h4 j hj, e2]
    rcases l4 j hj with y | ⟨v, y1, y2, y3⟩
    · exact Or.inl y
    · exact Or.inr ⟨v, y1, y2, by rw [h3 v (by omega)]; exact y3⟩
  · rw [h2 j hj]; exact f1 j (by rw [← e1]; exact q) hj
  · rw [h3 j hj]; exact f2 j (by rw [← e2]; exact q) hj
  · rw [h4 j hj]; exact f3 j (by rw [← e3]; exact q) hj
  · rw [e1] at hj
    rw [h2 j (by omega)]; exact z j hj
theorem hN_0 {h : xHi} : (hN h).1 0 = h.1 0 := if_neg (by omega)
theorem hN_2 {h : xHi} : (hN h).1 2 = h.1 2 := if_neg (by omega)
theorem hN_s {h : xHi} : (hN h).1 (3 + h.2.1.1) = cpS (h.1 (3 + h.2.1.1)) (h.1 0) := if_pos rfl
theorem hN_o {h : xHi} {i : Nat} (e : i ≠ h.2.1.1) : (hN h).1 (3 + i) = h.1 (3 + i) := if_neg (by omega)
theorem cR_10 {c : xCo} {a b : Int32} : (cR c a b).1 10 = a := (cS_o (k := 11) (j := 10) (by decide)).trans cS_s
theorem eq_R {c : xCo} {a b : Int32} : EQ9 c (cR c a b) := ⟨fun _ h => (upd_o (by omega)).trans (upd_o (by omega)), fun _ _ => rfl, fun _ _ => rfl, fun _ _ => rfl⟩
theorem EQ9.rf {c : xCo} : EQ9 c c := ⟨fun _ _ => rfl, fun _ _ => rfl, fun _ _ => rfl, fun _ _ => rfl⟩
theorem EQ9.tr {c d e : xCo} (a : EQ9 c d) (b : EQ9 d e) : EQ9 c e := ⟨fun k h => (b.1 k h).trans (a.1 k h), fun k h => (b.2.1 k h).trans (a.2.1 k h), fun k h => (b.2.2.1 k h).trans (a.2.2.1 k h), fun k h => (b.2.2.2 k h).trans (a.2.2.2 k h)⟩
theorem EQ9.sy {c d : xCo} (a : EQ9 c d) : EQ9 d c := ⟨fun k h => (a.1 k h).symm, fun k h => (a.2.1 k h).symm, fun k h => (a.2.2.1 k h).symm, fun k h => (a.2.2.2 k h).symm⟩
theorem nI_neg {v : Nat} {z : Int32} (hv : v < 2147483648) (hz : z < 0) : ¬ nI v = z := fun e => nI_pos (n := v) (by omega) (by rw [e]; exact hz)
section HSL
variable {Po : xPo} {w : xW} {E : xE} {x : Nat} {h0 h : xHi} {r : Int32}
theorem hS_ok {v : Nat} (hv : v < 2147483000) (e : r = nI v) (q : ∀ u, HI E u x (hK h) → Fr w u x h0 → Po (.inl (some (.int (nI v)))) u) : hS Po w E x h0 h r := by
  subst e
  unfold hS
  rw [if_neg (nI_neg (by omega) (by decide)), if_neg (nI_neg (by omega) (by decide)), if_neg (nI_neg (by omega) (by decide))]
  exact q
theorem hS_1 (e : r = -1) (q : ∀ u, HI E u x h → Fr w u x h0 → Po (.inr "java/lang/UnsupportedOperationException") u) : hS Po w E x h0 h r := by
  subst e
  exact q
theorem hS_2 (e : r = -2) (q : ∀ u, HI E u x h → Fr w u x h0 → Po (.inr "java/lang/IndexOutOfBoundsException") u) : hS Po w E x h0 h r := by
  subst e
  exact q
theorem hS_3 (e : r = -3) (q : ∀ u, HI E u x h → Fr w u x h0 → Po (.inr "java/lang/IllegalArgumentException") u) : hS Po w E x h0 h r := by
  subst e
  exact q
end HSL
/-- a change, as it is undone: refused, and all stays; or done, and what was is noted -/
def UC (K : Nat) (h h2 : xHi) (r : Int32) : Prop := J9 K (h2.1 0) ∧ (∀ i, i < 9 → i ≠ h.2.1.1 → h2.1 (3 + i) = h.1 (3 + i)) ∧ h2.2.2.1.1 0 = h2.2.2.1.1 0 ∧ ((r < 0 ∧ EQ9 (h.1 0) (h2.1 0) ∧ h2.2.1 = h.2.1) ∨ (¬ r < 0 ∧ EQ9 (h.1 0) (h2.1 (3 + h.2.1.1)) ∧ h2.2.1 = (hK h).2.1))
theorem uc_ok {K v : Nat} {h : xHi} {c : xCo} (hv : v < 2147483000) (J : J9 K c) : UC K h (hK (upS (hN h) 0 c)) (nI v) :=
  ⟨J, fun i hi ne => (if_neg (by omega)).trans (hN_o ne), rfl, Or.inr ⟨nI_pos (by omega), by
    show EQ9 (h.1 0) (if 3 + h.2.1.1 = 0 then c else (hN h).1 (3 + h.2.1.1))
    rw [if_neg (by omega), hN_s]; exact eq_cp, rfl⟩⟩
theorem uc_no {K : Nat} {h : xHi} {c : xCo} {r : Int32} (hr : r < 0) (e : EQ9 (h.1 0) c) (J : J9 K c) : UC K h (upS (hN h) 0 c) r :=
  ⟨J, fun i hi ne => (if_neg (by omega)).trans (hN_o ne), rfl, Or.inl ⟨hr, e, rfl⟩⟩
/-- what a change keeps of the rest: the builder, and how many changes can be undone -/
def KP (h h2 : xHi) : Prop := h2.2.2.2.2 = h.2.2.2.2 ∧ (h2.2.1 = h.2.1 ∨ h2.2.1 = (hK h).2.1)
/-- a change, as it is drawn -/
def DD (K m : Nat) (h h2 : xHi) (r : Int32) : Prop := J9 (K + 240) (h2.1 0) ∧ GQ m (h2.1 0) ∧ ((∃ v, v < 2147483000 ∧ r = nI v) ∨ (r < -1 ∧ ∃ a, 1 ≤ a ∧ a ≤ 14 ∧ (h2.1 0).1 10 = nI a)) ∧ KP h h2
def N9 (c d : xCo) : Prop := d.1 1 = c.1 1 ∧ d.1 2 = c.1 2 ∧ d.1 3 = c.1 3
theorem N9.n {c d : xCo} (h : N9 c d) : n1 d = n1 c ∧ n2 d = n2 c ∧ n3 d = n3 c := ⟨congrArg Int32.toNatClampNeg h.1, congrArg Int32.toNatClampNeg h.2.1, congrArg Int32.toNatClampNeg h.2.2⟩
theorem hoursS_1 {k : Nat} (hk : k < 5) (h0 : k ≠ 0) : ∀ (n : Nat) (c : xCo), (hoursS n c).1 k = c.1 k
  | 0, _ => rfl
  | n + 1, c => (hoursS_1 hk h0 n (hourS c)).trans (hourS_1 hk h0)
theorem nt_tub_2 {d : xCo} {z : Int32} : (mTub d z).1 ≠ -2 := by
  unfold mTub
  repeat' split
  all_goals first | exact (by decide : (0 : Int32) ≠ -2) | exact (by decide : (-1 : Int32) ≠ -2) | exact (by decide : (-3 : Int32) ≠ -2)
theorem lu_tub {E : xE} {Po : xPo} {w : xW} {x K : Nat} {h : xHi} {z : Int32} (J : J9 K (h.1 0)) (hK9 : K + 240 < 16000000) (H : HI E w x h) (hp : ∀ u h2 r, UC (K + 240) h h2 r → HI E u x h2 → FX w u x h h2 → Po (.inl (some (.int r))) u) : Ct M_L_tub E [.ref x, .int z] w Po := by
  rcases (sim_tub R9.rfl9 J : OK9 K (h.1 0) (h.1 0) (addTubS (h.1 0) z) (mTub (h.1 0) z)) with ⟨o1, o2, ⟨v, hv, ev⟩, -, o4⟩ | ⟨o1, o2, a, b, -, o4, -⟩ | ⟨o1, o2, o3, -⟩ | ⟨o1, o2, o3, -⟩
  · exact ct_L_tub 0 (nI v) (fun g => g = hK (upS (hN h) 0 (addTubS (h.1 0) z).2)) H (by decide) (fun _ e => by rw [e]; rfl) (fun Po q => ct_X9_tub H (hS_ok hv ev (fun u Hu fu => q u _ rfl Hu fu))) (fun u h2 e Hu fu => by subst e; exact hp u _ _ (uc_ok hv o4) Hu fu)
  · exact ct_L_tub 2 0 (fun g => g = upS (hN h) 0 (addTubS (h.1 0) z).2) H (by decide) (fun _ e => by rw [e]; rfl) (fun Po q => ct_X9_tub H (hS_1 o2 (fun u Hu fu => q u _ rfl Hu fu))) (fun u h2 e Hu fu => by subst e; exact hp u _ (-2) (uc_no (by decide) (by rw [o4]; exact eq_R) (by rw [o4]; exact (j_R J).mono (by omega))) Hu fu)
  · exact absurd o1 nt_tub_2
  · exact ct_L_tub 1 0 (fun g => g = upS (hN h) 0 (addTubS (h.1 0) z).2) H (by decide) (fun _ e => by rw [e]; rfl) (fun Po q => ct_X9_tub H (hS_3 o2 (fun u Hu fu => q u _ rfl Hu fu))) (fun u h2 e Hu fu => by subst e; exact hp u _ (-1) (uc_no (by decide) (by rw [o3]; exact EQ9.rf) (by rw [o3]; exact J.mono (by omega))) Hu fu)
theorem nt_tent_2 {d : xCo} {z : Int32} : (mTent d z).1 ≠ -2 := by
  unfold mTent
  repeat' split
  all_goals first | exact (by decide : (0 : Int32) ≠ -2) | exact (by decide : (-1 : Int32) ≠ -2) | exact (by decide : (-3 : Int32) ≠ -2)
theorem lu_tent {E : xE} {Po : xPo} {w : xW} {x K : Nat} {h : xHi} {z : Int32} (J : J9 K (h.1 0)) (hK9 : K + 240 < 16000000) (H : HI E w x h) (hp : ∀ u h2 r, UC (K + 240) h h2 r → HI E u x h2 → FX w u x h h2 → Po (.inl (some (.int r))) u) : Ct M_L_tent E [.ref x, .int z] w Po := by
  rcases (sim_tent R9.rfl9 J : OK9 K (h.1 0) (h.1 0) (addTentS (h.1 0) z) (mTent (h.1 0) z)) with ⟨o1, o2, ⟨v, hv, ev⟩, -, o4⟩ | ⟨o1, o2, a, b, -, o4, -⟩ | ⟨o1, o2, o3, -⟩ | ⟨o1, o2, o3, -⟩
  · exact ct_L_tent 0 (nI v) (fun g => g = hK (upS (hN h) 0 (addTentS (h.1 0) z).2)) H (by decide) (fun _ e => by rw [e]; rfl) (fun Po q => ct_X9_tent H (hS_ok hv ev (fun u Hu fu => q u _ rfl Hu fu))) (fun u h2 e Hu fu => by subst e; exact hp u _ _ (uc_ok hv o4) Hu fu)
  · exact ct_L_tent 2 0 (fun g => g = upS (hN h) 0 (addTentS (h.1 0) z).2) H (by decide) (fun _ e => by rw [e]; rfl) (fun Po q => ct_X9_tent H (hS_1 o2 (fun u Hu fu => q u _ rfl Hu fu))) (fun u h2 e Hu fu => by subst e; exact hp u _ (-2) (uc_no (by decide) (by rw [o4]; exact eq_R) (by rw [o4]; exact (j_R J).mono (by omega))) Hu fu)
  · exact absurd o1 nt_tent_2
  · exact ct_L_tent 1 0 (fun g => g = upS (hN h) 0 (addTentS (h.1 0) z).2) H (by decide) (fun _ e => by rw [e]; rfl) (fun Po q => ct_X9_tent H (hS_3 o2 (fun u Hu fu => q u _ rfl Hu fu))) (fun u h2 e Hu fu => by subst e; exact hp u _ (-1) (uc_no (by decide) (by rw [o3]; exact EQ9.rf) (by rw [o3]; exact J.mono (by omega))) Hu fu)
theorem nt_heater_2 {d : xCo} : (mHeater d).1 ≠ -2 := by
  unfold mHeater
  repeat' split
  all_goals first | exact (by decide : (0 : Int32) ≠ -2) | exact (by decide : (-1 : Int32) ≠ -2) | exact (by decide : (-3 : Int32) ≠ -2)
theorem nt_heater_3 {d : xCo} : (mHeater d).1 ≠ -3 := by
  unfold mHeater
  repeat' split
  all_goals first | exact (by decide : (0 : Int32) ≠ -3) | exact (by decide : (-1 : Int32) ≠ -3) | exact (by decide : (-2 : Int32) ≠ -3)
theorem lu_heater {E : xE} {Po : xPo} {w : xW} {x K : Nat} {h : xHi} (J : J9 K (h.1 0)) (hK9 : K + 240 < 16000000) (H : HI E w x h) (hp : ∀ u h2 r, UC (K + 240) h h2 r → HI E u x h2 → FX w u x h h2 → Po (.inl (some (.int r))) u) : Ct M_L_heater E [.ref x] w Po := by
  rcases (sim_heater R9.rfl9 J : OK9 K (h.1 0) (h.1 0) (addHeaterS (h.1 0)) (mHeater (h.1 0))) with ⟨o1, o2, ⟨v, hv, ev⟩, -, o4⟩ | ⟨o1, o2, a, b, -, o4, -⟩ | ⟨o1, o2, o3, -⟩ | ⟨o1, o2, o3, -⟩
  · exact ct_L_heater 0 (nI v) (fun g => g = hK (upS (hN h) 0 (addHeaterS (h.1 0)).2)) H (by decide) (fun _ e => by rw [e]; rfl) (fun Po q => ct_X9_heater H (hS_ok hv ev (fun u Hu fu => q u _ rfl Hu fu))) (fun u h2 e Hu fu => by subst e; exact hp u _ _ (uc_ok hv o4) Hu fu)
  · exact ct_L_heater 1 0 (fun g => g = upS (hN h) 0 (addHeaterS (h.1 0)).2) H (by decide) (fun _ e => by rw [e]; rfl) (fun Po q => ct_X9_heater H (hS_1 o2 (fun u Hu fu => q u _ rfl Hu fu))) (fun u h2 e Hu fu => by subst e; exact hp u _ (-2) (uc_no (by decide) (by rw [o4]; exact eq_R) (by rw [o4]; exact (j_R J).mono (by omega))) Hu fu)
  · exact absurd o1 nt_heater_2
  · exact absurd o1 nt_heater_3
theorem nt_out_3 {d : xCo} {t s : Int32} : (mOut d t s).1 ≠ -3 := by
  unfold mOut
  repeat' split
  all_goals first | exact (by decide : (0 : Int32) ≠ -3) | exact (by decide : (-1 : Int32) ≠ -3) | exact (by decide : (-2 : Int32) ≠ -3)
theorem lu_out {E : xE} {Po : xPo} {w : xW} {x K : Nat} {h : xHi} {t s : Int32} (J : J9 K (h.1 0)) (hK9 : K + 240 < 16000000) (H : HI E w x h) (hp : ∀ u h2 r, UC (K + 240) h h2 r → HI E u x h2 → FX w u x h h2 → Po (.inl (some (.int r))) u) : Ct M_L_out E [.ref x, .int t, .int s] w Po := by
  rcases (sim_out R9.rfl9 J (by omega) : OK9 K (h.1 0) (h.1 0) (outS (h.1 0) t s) (mOut (h.1 0) t s)) with ⟨o1, o2, ⟨v, hv, ev⟩, -, o4⟩ | ⟨o1, o2, a, b, -, o4, -⟩ | ⟨o1, o2, o3, -⟩ | ⟨o1, o2, o3, -⟩
  · exact ct_L_out 0 (nI v) (fun g => g = hK (upS (hN h) 0 (outS (h.1 0) t s).2)) H (by decide) (fun _ e => by rw [e]; rfl) (fun Po q => ct_X9_out H (hS_ok hv ev (fun u Hu fu => q u _ rfl Hu fu))) (fun u h2 e Hu fu => by subst e; exact hp u _ _ (uc_ok hv o4) Hu fu)
  · exact ct_L_out 2 0 (fun g => g = upS (hN h) 0 (outS (h.1 0) t s).2) H (by decide) (fun _ e => by rw [e]; rfl) (fun Po q => ct_X9_out H (hS_1 o2 (fun u Hu fu => q u _ rfl Hu fu))) (fun u h2 e Hu fu => by subst e; exact hp u _ (-2) (uc_no (by decide) (by rw [o4]; exact eq_R) (by rw [o4]; exact (j_R J).mono (by omega))) Hu fu)
  · exact ct_L_out 1 0 (fun g => g = upS (hN h) 0 (outS (h.1 0) t s).2) H (by decide) (fun _ e => by rw [e]; rfl) (fun Po q => ct_X9_out H (hS_2 o2 (fun u Hu fu => q u _ rfl Hu fu))) (fun u h2 e Hu fu => by subst e; exact hp u _ (-1) (uc_no (by decide) (by rw [o3]; exact EQ9.rf) (by rw [o3]; exact J.mono (by omega))) Hu fu)
  · exact absurd o1 nt_out_3
theorem n9_out {c : xCo} {t s : Int32} : N9 c (outS c t s).2 := by
  unfold outS
  repeat' split
  all_goals exact ⟨rfl, rfl, rfl⟩
theorem ld_out {E : xE} {Po : xPo} {w : xW} {x K m : Nat} {h : xHi} {t s : Int32} (J : J9 K (h.1 0)) (G : GQ m (h.1 0)) (D : DR K m (h.1 0) (outS (h.1 0) t s)) (H : HI E w x h) (hp : ∀ u h2 r, DD K m h h2 r → N9 (h.1 0) (h2.1 0) → HI E u x h2 → FX w u x h h2 → Po (.inl (some (.int r))) u) : Ct M_L_out E [.ref x, .int t, .int s] w Po := by
  rcases D with ⟨v, hv, ev, J1, G1⟩ | ⟨e1, a, b, h1, h2, e2⟩
  · exact ct_L_out 0 (nI v) (fun g => g = hK (upS (hN h) 0 (outS (h.1 0) t s).2)) H (by decide) (fun _ e => by rw [e]; rfl) (fun Po q => ct_X9_out H (hS_ok hv ev (fun u Hu fu => q u _ rfl Hu fu))) (fun u h2 e Hu fu => by subst e; exact hp u _ _ ⟨J1, G1, Or.inl ⟨v, hv, rfl⟩, by rfl, Or.inr (by rfl)⟩ n9_out Hu fu)
  · exact ct_L_out 2 0 (fun g => g = upS (hN h) 0 (outS (h.1 0) t s).2) H (by decide) (fun _ e => by rw [e]; rfl) (fun Po q => ct_X9_out H (hS_1 e1 (fun u Hu fu => q u _ rfl Hu fu))) (fun u h2 e Hu fu => by subst e; exact hp u _ (-2) ⟨(show J9 (K + 240) (outS (h.1 0) t s).2 by rw [e2]; exact (j_R J).mono (by omega)), (show GQ m (outS (h.1 0) t s).2 by rw [e2]; exact G.ag J ((AG.id.S (by decide)).S (by decide))), Or.inr ⟨by decide, a, h1, h2, (show (outS (h.1 0) t s).2.1 10 = nI a by rw [e2]; exact cR_10)⟩, by rfl, Or.inl (by rfl)⟩ n9_out Hu fu)
theorem nt_back_3 {d : xCo} {t : Int32} : (mBack d t).1 ≠ -3 := by
  unfold mBack
  repeat' split
  all_goals first | exact (by decide : (0 : Int32) ≠ -3) | exact (by decide : (-1 : Int32) ≠ -3) | exact (by decide : (-2 : Int32) ≠ -3)
theorem lu_back {E : xE} {Po : xPo} {w : xW} {x K : Nat} {h : xHi} {t : Int32} (J : J9 K (h.1 0)) (hK9 : K + 240 < 16000000) (H : HI E w x h) (hp : ∀ u h2 r, UC (K + 240) h h2 r → HI E u x h2 → FX w u x h h2 → Po (.inl (some (.int r))) u) : Ct M_L_back E [.ref x, .int t] w Po := by
  rcases (sim_back R9.rfl9 J (by omega) : OK9 K (h.1 0) (h.1 0) (backS (h.1 0) t) (mBack (h.1 0) t)) with ⟨o1, o2, ⟨v, hv, ev⟩, -, o4⟩ | ⟨o1, o2, a, b, -, o4, -⟩ | ⟨o1, o2, o3, -⟩ | ⟨o1, o2, o3, -⟩
  · exact ct_L_back 0 (nI v) (fun g => g = hK (upS (hN h) 0 (backS (h.1 0) t).2)) H (by decide) (fun _ e => by rw [e]; rfl) (fun Po q => ct_X9_back H (hS_ok hv ev (fun u Hu fu => q u _ rfl Hu fu))) (fun u h2 e Hu fu => by subst e; exact hp u _ _ (uc_ok hv o4) Hu fu)
  · exact ct_L_back 2 0 (fun g => g = upS (hN h) 0 (backS (h.1 0) t).2) H (by decide) (fun _ e => by rw [e]; rfl) (fun Po q => ct_X9_back H (hS_1 o2 (fun u Hu fu => q u _ rfl Hu fu))) (fun u h2 e Hu fu => by subst e; exact hp u _ (-2) (uc_no (by decide) (by rw [o4]; exact eq_R) (by rw [o4]; exact (j_R J).mono (by omega))) Hu fu)
  · exact ct_L_back 1 0 (fun g => g = upS (hN h) 0 (backS (h.1 0) t).2) H (by decide) (fun _ e => by rw [e]; rfl) (fun Po q => ct_X9_back H (hS_2 o2 (fun u Hu fu => q u _ rfl Hu fu))) (fun u h2 e Hu fu => by subst e; exact hp u _ (-1) (uc_no (by decide) (by rw [o3]; exact EQ9.rf) (by rw [o3]; exact J.mono (by omega))) Hu fu)
  · exact absurd o1 nt_back_3
theorem n9_back {c : xCo} {t : Int32} : N9 c (backS c t).2 := by
  unfold backS
  repeat' split
  all_goals exact ⟨rfl, rfl, rfl⟩
theorem ld_back {E : xE} {Po : xPo} {w : xW} {x K m : Nat} {h : xHi} {t : Int32} (J : J9 K (h.1 0)) (G : GQ m (h.1 0)) (D : DR K m (h.1 0) (backS (h.1 0) t)) (H : HI E w x h) (hp : ∀ u h2 r, DD K m h h2 r → N9 (h.1 0) (h2.1 0) → HI E u x h2 → FX w u x h h2 → Po (.inl (some (.int r))) u) : Ct M_L_back E [.ref x, .int t] w Po := by
  rcases D with ⟨v, hv, ev, J1, G1⟩ | ⟨e1, a, b, h1, h2, e2⟩
  · exact ct_L_back 0 (nI v) (fun g => g = hK (upS (hN h) 0 (backS (h.1 0) t).2)) H (by decide) (fun _ e => by rw [e]; rfl) (fun Po q => ct_X9_back H (hS_ok hv ev (fun u Hu fu => q u _ rfl Hu fu))) (fun u h2 e Hu fu => by subst e; exact hp u _ _ ⟨J1, G1, Or.inl ⟨v, hv, rfl⟩, by rfl, Or.inr (by rfl)⟩ n9_back Hu fu)
  · exact ct_L_back 2 0 (fun g => g = upS (hN h) 0 (backS (h.1 0) t).2) H (by decide) (fun _ e => by rw [e]; rfl) (fun Po q => ct_X9_back H (hS_1 e1 (fun u Hu fu => q u _ rfl Hu fu))) (fun u h2 e Hu fu => by subst e; exact hp u _ (-2) ⟨(show J9 (K + 240) (backS (h.1 0) t).2 by rw [e2]; exact (j_R J).mono (by omega)), (show GQ m (backS (h.1 0) t).2 by rw [e2]; exact G.ag J ((AG.id.S (by decide)).S (by decide))), Or.inr ⟨by decide, a, h1, h2, (show (backS (h.1 0) t).2.1 10 = nI a by rw [e2]; exact cR_10)⟩, by rfl, Or.inl (by rfl)⟩ n9_back Hu fu)
theorem nt_heat_3 {d : xCo} {t s : Int32} : (mHeat d t s).1 ≠ -3 := by
  unfold mHeat
  repeat' split
  all_goals first | exact (by decide : (0 : Int32) ≠ -3) | exact (by decide : (-1 : Int32) ≠ -3) | exact (by decide : (-2 : Int32) ≠ -3)
theorem lu_heat {E : xE} {Po : xPo} {w : xW} {x K : Nat} {h : xHi} {t s : Int32} (J : J9 K (h.1 0)) (hK9 : K + 240 < 16000000) (H : HI E w x h) (hp : ∀ u h2 r, UC (K + 240) h h2 r → HI E u x h2 → FX w u x h h2 → Po (.inl (some (.int r))) u) : Ct M_L_heat E [.ref x, .int t, .int s] w Po := by
  rcases (sim_heat R9.rfl9 J (by omega) : OK9 K (h.1 0) (h.1 0) (heatPS (h.1 0) t s) (mHeat (h.1 0) t s)) with ⟨o1, o2, ⟨v, hv, ev⟩, -, o4⟩ | ⟨o1, o2, a, b, -, o4, -⟩ | ⟨o1, o2, o3, -⟩ | ⟨o1, o2, o3, -⟩
  · exact ct_L_heat 0 (nI v) (fun g => g = hK (upS (hN h) 0 (heatPS (h.1 0) t s).2)) H (by decide) (fun _ e => by rw [e]; rfl) (fun Po q => ct_X9_heat H (hS_ok hv ev (fun u Hu fu => q u _ rfl Hu fu))) (fun u h2 e Hu fu => by subst e; exact hp u _ _ (uc_ok hv o4) Hu fu)
  · exact ct_L_heat 2 0 (fun g => g = upS (hN h) 0 (heatPS (h.1 0) t s).2) H (by decide) (fun _ e => by rw [e]; rfl) (fun Po q => ct_X9_heat H (hS_1 o2 (fun u Hu fu => q u _ rfl Hu fu))) (fun u h2 e Hu fu => by subst e; exact hp u _ (-2) (uc_no (by decide) (by rw [o4]; exact eq_R) (by rw [o4]; exact (j_R J).mono (by omega))) Hu fu)
  · exact ct_L_heat 1 0 (fun g => g = upS (hN h) 0 (heatPS (h.1 0) t s).2) H (by decide) (fun _ e => by rw [e]; rfl) (fun Po q => ct_X9_heat H (hS_2 o2 (fun u Hu fu => q u _ rfl Hu fu))) (fun u h2 e Hu fu => by subst e; exact hp u _ (-1) (uc_no (by decide) (by rw [o3]; exact EQ9.rf) (by rw [o3]; exact J.mono (by omega))) Hu fu)
  · exact absurd o1 nt_heat_3
theorem n9_heat {c : xCo} {t s : Int32} : N9 c (heatPS c t s).2 := by
  unfold heatPS
  repeat' split
  all_goals exact ⟨rfl, rfl, rfl⟩
theorem ld_heat {E : xE} {Po : xPo} {w : xW} {x K m : Nat} {h : xHi} {t s : Int32} (J : J9 K (h.1 0)) (G : GQ m (h.1 0)) (D : DR K m (h.1 0) (heatPS (h.1 0) t s)) (H : HI E w x h) (hp : ∀ u h2 r, DD K m h h2 r → N9 (h.1 0) (h2.1 0) → HI E u x h2 → FX w u x h h2 → Po (.inl (some (.int r))) u) : Ct M_L_heat E [.ref x, .int t, .int s] w Po := by
  rcases D with ⟨v, hv, ev, J1, G1⟩ | ⟨e1, a, b, h1, h2, e2⟩
  · exact ct_L_heat 0 (nI v) (fun g => g = hK (upS (hN h) 0 (heatPS (h.1 0) t s).2)) H (by decide) (fun _ e => by rw [e]; rfl) (fun Po q => ct_X9_heat H (hS_ok hv ev (fun u Hu fu => q u _ rfl Hu fu))) (fun u h2 e Hu fu => by subst e; exact hp u _ _ ⟨J1, G1, Or.inl ⟨v, hv, rfl⟩, by rfl, Or.inr (by rfl)⟩ n9_heat Hu fu)
  · exact ct_L_heat 2 0 (fun g => g = upS (hN h) 0 (heatPS (h.1 0) t s).2) H (by decide) (fun _ e => by rw [e]; rfl) (fun Po q => ct_X9_heat H (hS_1 e1 (fun u Hu fu => q u _ rfl Hu fu))) (fun u h2 e Hu fu => by subst e; exact hp u _ (-2) ⟨(show J9 (K + 240) (heatPS (h.1 0) t s).2 by rw [e2]; exact (j_R J).mono (by omega)), (show GQ m (heatPS (h.1 0) t s).2 by rw [e2]; exact G.ag J ((AG.id.S (by decide)).S (by decide))), Or.inr ⟨by decide, a, h1, h2, (show (heatPS (h.1 0) t s).2.1 10 = nI a by rw [e2]; exact cR_10)⟩, by rfl, Or.inl (by rfl)⟩ n9_heat Hu fu)
theorem nt_cold_3 {d : xCo} {t : Int32} : (mCold d t).1 ≠ -3 := by
  unfold mCold
  repeat' split
  all_goals first | exact (by decide : (0 : Int32) ≠ -3) | exact (by decide : (-1 : Int32) ≠ -3) | exact (by decide : (-2 : Int32) ≠ -3)
theorem lu_cold {E : xE} {Po : xPo} {w : xW} {x K : Nat} {h : xHi} {t : Int32} (J : J9 K (h.1 0)) (hK9 : K + 240 < 16000000) (H : HI E w x h) (hp : ∀ u h2 r, UC (K + 240) h h2 r → HI E u x h2 → FX w u x h h2 → Po (.inl (some (.int r))) u) : Ct M_L_cold E [.ref x, .int t] w Po := by
  rcases (sim_cold R9.rfl9 J (by omega) : OK9 K (h.1 0) (h.1 0) (coldS (h.1 0) t) (mCold (h.1 0) t)) with ⟨o1, o2, ⟨v, hv, ev⟩, -, o4⟩ | ⟨o1, o2, a, b, -, o4, -⟩ | ⟨o1, o2, o3, -⟩ | ⟨o1, o2, o3, -⟩
  · exact ct_L_cold 0 (nI v) (fun g => g = hK (upS (hN h) 0 (coldS (h.1 0) t).2)) H (by decide) (fun _ e => by rw [e]; rfl) (fun Po q => ct_X9_cold H (hS_ok hv ev (fun u Hu fu => q u _ rfl Hu fu))) (fun u h2 e Hu fu => by subst e; exact hp u _ _ (uc_ok hv o4) Hu fu)
  · exact ct_L_cold 2 0 (fun g => g = upS (hN h) 0 (coldS (h.1 0) t).2) H (by decide) (fun _ e => by rw [e]; rfl) (fun Po q => ct_X9_cold H (hS_1 o2 (fun u Hu fu => q u _ rfl Hu fu))) (fun u h2 e Hu fu => by subst e; exact hp u _ (-2) (uc_no (by decide) (by rw [o4]; exact eq_R) (by rw [o4]; exact (j_R J).mono (by omega))) Hu fu)
  · exact ct_L_cold 1 0 (fun g => g = upS (hN h) 0 (coldS (h.1 0) t).2) H (by decide) (fun _ e => by rw [e]; rfl) (fun Po q => ct_X9_cold H (hS_2 o2 (fun u Hu fu => q u _ rfl Hu fu))) (fun u h2 e Hu fu => by subst e; exact hp u _ (-1) (uc_no (by decide) (by rw [o3]; exact EQ9.rf) (by rw [o3]; exact J.mono (by omega))) Hu fu)
  · exact absurd o1 nt_cold_3
theorem n9_cold {c : xCo} {t : Int32} : N9 c (coldS c t).2 := by
  unfold coldS
  repeat' split
  all_goals exact ⟨rfl, rfl, rfl⟩
theorem ld_cold {E : xE} {Po : xPo} {w : xW} {x K m : Nat} {h : xHi} {t : Int32} (J : J9 K (h.1 0)) (G : GQ m (h.1 0)) (D : DR K m (h.1 0) (coldS (h.1 0) t)) (H : HI E w x h) (hp : ∀ u h2 r, DD K m h h2 r → N9 (h.1 0) (h2.1 0) → HI E u x h2 → FX w u x h h2 → Po (.inl (some (.int r))) u) : Ct M_L_cold E [.ref x, .int t] w Po := by
  rcases D with ⟨v, hv, ev, J1, G1⟩ | ⟨e1, a, b, h1, h2, e2⟩
  · exact ct_L_cold 0 (nI v) (fun g => g = hK (upS (hN h) 0 (coldS (h.1 0) t).2)) H (by decide) (fun _ e => by rw [e]; rfl) (fun Po q => ct_X9_cold H (hS_ok hv ev (fun u Hu fu => q u _ rfl Hu fu))) (fun u h2 e Hu fu => by subst e; exact hp u _ _ ⟨J1, G1, Or.inl ⟨v, hv, rfl⟩, by rfl, Or.inr (by rfl)⟩ n9_cold Hu fu)
  · exact ct_L_cold 2 0 (fun g => g = upS (hN h) 0 (coldS (h.1 0) t).2) H (by decide) (fun _ e => by rw [e]; rfl) (fun Po q => ct_X9_cold H (hS_1 e1 (fun u Hu fu => q u _ rfl Hu fu))) (fun u h2 e Hu fu => by subst e; exact hp u _ (-2) ⟨(show J9 (K + 240) (coldS (h.1 0) t).2 by rw [e2]; exact (j_R J).mono (by omega)), (show GQ m (coldS (h.1 0) t).2 by rw [e2]; exact G.ag J ((AG.id.S (by decide)).S (by decide))), Or.inr ⟨by decide, a, h1, h2, (show (coldS (h.1 0) t).2.1 10 = nI a by rw [e2]; exact cR_10)⟩, by rfl, Or.inl (by rfl)⟩ n9_cold Hu fu)
theorem nt_join_3 {d : xCo} {t : Int32} : (mJoin d t).1 ≠ -3 := by
  unfold mJoin
  repeat' split
  all_goals first | exact (by decide : (0 : Int32) ≠ -3) | exact (by decide : (-1 : Int32) ≠ -3) | exact (by decide : (-2 : Int32) ≠ -3)
theorem lu_join {E : xE} {Po : xPo} {w : xW} {x K : Nat} {h : xHi} {t : Int32} (J : J9 K (h.1 0)) (hK9 : K + 240 < 16000000) (H : HI E w x h) (hp : ∀ u h2 r, UC (K + 240) h h2 r → HI E u x h2 → FX w u x h h2 → Po (.inl (some (.int r))) u) : Ct M_L_join E [.ref x, .int t] w Po := by
  rcases (sim_join R9.rfl9 J (by omega) : OK9 K (h.1 0) (h.1 0) (joinS (h.1 0) t) (mJoin (h.1 0) t)) with ⟨o1, o2, ⟨v, hv, ev⟩, -, o4⟩ | ⟨o1, o2, a, b, -, o4, -⟩ | ⟨o1, o2, o3, -⟩ | ⟨o1, o2, o3, -⟩
  · exact ct_L_join 0 (nI v) (fun g => g = hK (upS (hN h) 0 (joinS (h.1 0) t).2)) H (by decide) (fun _ e => by rw [e]; rfl) (fun Po q => ct_X9_join H J.inC (hS_ok hv ev (fun u Hu fu => q u _ rfl Hu fu))) (fun u h2 e Hu fu => by subst e; exact hp u _ _ (uc_ok hv o4) Hu fu)
  · exact ct_L_join 2 0 (fun g => g = upS (hN h) 0 (joinS (h.1 0) t).2) H (by decide) (fun _ e => by rw [e]; rfl) (fun Po q => ct_X9_join H J.inC (hS_1 o2 (fun u Hu fu => q u _ rfl Hu fu))) (fun u h2 e Hu fu => by subst e; exact hp u _ (-2) (uc_no (by decide) (by rw [o4]; exact eq_R) (by rw [o4]; exact (j_R J).mono (by omega))) Hu fu)
  · exact ct_L_join 1 0 (fun g => g = upS (hN h) 0 (joinS (h.1 0) t).2) H (by decide) (fun _ e => by rw [e]; rfl) (fun Po q => ct_X9_join H J.inC (hS_2 o2 (fun u Hu fu => q u _ rfl Hu fu))) (fun u h2 e Hu fu => by subst e; exact hp u _ (-1) (uc_no (by decide) (by rw [o3]; exact EQ9.rf) (by rw [o3]; exact J.mono (by omega))) Hu fu)
  · exact absurd o1 nt_join_3
theorem n9_join {c : xCo} {t : Int32} : N9 c (joinS c t).2 := by
  unfold joinS
  repeat' split
  all_goals exact ⟨rfl, rfl, rfl⟩
theorem ld_join {E : xE} {Po : xPo} {w : xW} {x K m : Nat} {h : xHi} {t : Int32} (J : J9 K (h.1 0)) (G : GQ m (h.1 0)) (D : DR K m (h.1 0) (joinS (h.1 0) t)) (H : HI E w x h) (hp : ∀ u h2 r, DD K m h h2 r → N9 (h.1 0) (h2.1 0) → HI E u x h2 → FX w u x h h2 → Po (.inl (some (.int r))) u) : Ct M_L_join E [.ref x, .int t] w Po := by
  rcases D with ⟨v, hv, ev, J1, G1⟩ | ⟨e1, a, b, h1, h2, e2⟩
  · exact ct_L_join 0 (nI v) (fun g => g = hK (upS (hN h) 0 (joinS (h.1 0) t).2)) H (by decide) (fun _ e => by rw [e]; rfl) (fun Po q => ct_X9_join H J.inC (hS_ok hv ev (fun u Hu fu => q u _ rfl Hu fu))) (fun u h2 e Hu fu => by subst e; exact hp u _ _ ⟨J1, G1, Or.inl ⟨v, hv, rfl⟩, by rfl, Or.inr (by rfl)⟩ n9_join Hu fu)
  · exact ct_L_join 2 0 (fun g => g = upS (hN h) 0 (joinS (h.1 0) t).2) H (by decide) (fun _ e => by rw [e]; rfl) (fun Po q => ct_X9_join H J.inC (hS_1 e1 (fun u Hu fu => q u _ rfl Hu fu))) (fun u h2 e Hu fu => by subst e; exact hp u _ (-2) ⟨(show J9 (K + 240) (joinS (h.1 0) t).2 by rw [e2]; exact (j_R J).mono (by omega)), (show GQ m (joinS (h.1 0) t).2 by rw [e2]; exact G.ag J ((AG.id.S (by decide)).S (by decide))), Or.inr ⟨by decide, a, h1, h2, (show (joinS (h.1 0) t).2.1 10 = nI a by rw [e2]; exact cR_10)⟩, by rfl, Or.inl (by rfl)⟩ n9_join Hu fu)
theorem nt_tear_1 {d : xCo} {t s : Int32} : (mTear d t s).1 ≠ -1 := by
  unfold mTear
  repeat' split
  all_goals first | exact (by decide : (0 : Int32) ≠ -1) | exact (by decide : (-2 : Int32) ≠ -1) | exact (by decide : (-3 : Int32) ≠ -1)
theorem nt_tear_3 {d : xCo} {t s : Int32} : (mTear d t s).1 ≠ -3 := by
  unfold mTear
  repeat' split
  all_goals first | exact (by decide : (0 : Int32) ≠ -3) | exact (by decide : (-1 : Int32) ≠ -3) | exact (by decide : (-2 : Int32) ≠ -3)
theorem lu_tear {E : xE} {Po : xPo} {w : xW} {x K : Nat} {h : xHi} {t s : Int32} (J : J9 K (h.1 0)) (hK9 : K + 240 < 16000000) (H : HI E w x h) (hp : ∀ u h2 r, UC (K + 240) h h2 r → HI E u x h2 → FX w u x h h2 → Po (.inl (some (.int r))) u) : Ct M_L_tear E [.ref x, .int t, .int s] w Po := by
  rcases (sim_tear R9.rfl9 J : OK9 K (h.1 0) (h.1 0) (tearS (h.1 0) t s) (mTear (h.1 0) t s)) with ⟨o1, o2, ⟨v, hv, ev⟩, -, o4⟩ | ⟨o1, o2, a, b, -, o4, -⟩ | ⟨o1, o2, o3, -⟩ | ⟨o1, o2, o3, -⟩
  · exact ct_L_tear 0 (nI v) (fun g => g = hK (upS (hN h) 0 (tearS (h.1 0) t s).2)) H (by decide) (fun _ e => by rw [e]; rfl) (fun Po q => ct_X9_tear H (hS_ok hv ev (fun u Hu fu => q u _ rfl Hu fu))) (fun u h2 e Hu fu => by subst e; exact hp u _ _ (uc_ok hv o4) Hu fu)
  · exact absurd o1 nt_tear_1
  · exact ct_L_tear 1 0 (fun g => g = upS (hN h) 0 (tearS (h.1 0) t s).2) H (by decide) (fun _ e => by rw [e]; rfl) (fun Po q => ct_X9_tear H (hS_2 o2 (fun u Hu fu => q u _ rfl Hu fu))) (fun u h2 e Hu fu => by subst e; exact hp u _ (-1) (uc_no (by decide) (by rw [o3]; exact EQ9.rf) (by rw [o3]; exact J.mono (by omega))) Hu fu)
  · exact absurd o1 nt_tear_3
theorem n9_tear {c : xCo} {t s : Int32} : N9 c (tearS c t s).2 := by
  unfold tearS
  repeat' split
  all_goals exact ⟨rfl, rfl, rfl⟩
theorem ld_tear {E : xE} {Po : xPo} {w : xW} {x K m : Nat} {h : xHi} {t s : Int32} (J : J9 K (h.1 0)) (G : GQ m (h.1 0)) (D : DR K m (h.1 0) (tearS (h.1 0) t s)) (H : HI E w x h) (hp : ∀ u h2 r, DD K m h h2 r → N9 (h.1 0) (h2.1 0) → HI E u x h2 → FX w u x h h2 → Po (.inl (some (.int r))) u) (hx : (tearS (h.1 0) t s).1 ≠ -1) : Ct M_L_tear E [.ref x, .int t, .int s] w Po := by
  rcases D with ⟨v, hv, ev, J1, G1⟩ | ⟨e1, a, b, h1, h2, e2⟩
  · exact ct_L_tear 0 (nI v) (fun g => g = hK (upS (hN h) 0 (tearS (h.1 0) t s).2)) H (by decide) (fun _ e => by rw [e]; rfl) (fun Po q => ct_X9_tear H (hS_ok hv ev (fun u Hu fu => q u _ rfl Hu fu))) (fun u h2 e Hu fu => by subst e; exact hp u _ _ ⟨J1, G1, Or.inl ⟨v, hv, rfl⟩, by rfl, Or.inr (by rfl)⟩ n9_tear Hu fu)
  · exact absurd e1 hx
theorem nt_mend_3 {d : xCo} {t s : Int32} : (mMend d t s).1 ≠ -3 := by
  unfold mMend
  repeat' split
  all_goals first | exact (by decide : (0 : Int32) ≠ -3) | exact (by decide : (-1 : Int32) ≠ -3) | exact (by decide : (-2 : Int32) ≠ -3)
theorem lu_mend {E : xE} {Po : xPo} {w : xW} {x K : Nat} {h : xHi} {t s : Int32} (J : J9 K (h.1 0)) (hK9 : K + 240 < 16000000) (H : HI E w x h) (hp : ∀ u h2 r, UC (K + 240) h h2 r → HI E u x h2 → FX w u x h h2 → Po (.inl (some (.int r))) u) : Ct M_L_mend E [.ref x, .int t, .int s] w Po := by
  rcases (sim_mend R9.rfl9 J (by omega) : OK9 K (h.1 0) (h.1 0) (mendS (h.1 0) t s) (mMend (h.1 0) t s)) with ⟨o1, o2, ⟨v, hv, ev⟩, -, o4⟩ | ⟨o1, o2, a, b, -, o4, -⟩ | ⟨o1, o2, o3, -⟩ | ⟨o1, o2, o3, -⟩
  · exact ct_L_mend 0 (nI v) (fun g => g = hK (upS (hN h) 0 (mendS (h.1 0) t s).2)) H (by decide) (fun _ e => by rw [e]; rfl) (fun Po q => ct_X9_mend H (hS_ok hv ev (fun u Hu fu => q u _ rfl Hu fu))) (fun u h2 e Hu fu => by subst e; exact hp u _ _ (uc_ok hv o4) Hu fu)
  · exact ct_L_mend 2 0 (fun g => g = upS (hN h) 0 (mendS (h.1 0) t s).2) H (by decide) (fun _ e => by rw [e]; rfl) (fun Po q => ct_X9_mend H (hS_1 o2 (fun u Hu fu => q u _ rfl Hu fu))) (fun u h2 e Hu fu => by subst e; exact hp u _ (-2) (uc_no (by decide) (by rw [o4]; exact eq_R) (by rw [o4]; exact (j_R J).mono (by omega))) Hu fu)
  · exact ct_L_mend 1 0 (fun g => g = upS (hN h) 0 (mendS (h.1 0) t s).2) H (by decide) (fun _ e => by rw [e]; rfl) (fun Po q => ct_X9_mend H (hS_2 o2 (fun u Hu fu => q u _ rfl Hu fu))) (fun u h2 e Hu fu => by subst e; exact hp u _ (-1) (uc_no (by decide) (by rw [o3]; exact EQ9.rf) (by rw [o3]; exact J.mono (by omega))) Hu fu)
  · exact absurd o1 nt_mend_3
theorem n9_mend {c : xCo} {t s : Int32} : N9 c (mendS c t s).2 := by
  unfold mendS
  repeat' split
  all_goals exact ⟨rfl, rfl, rfl⟩
theorem ld_mend {E : xE} {Po : xPo} {w : xW} {x K m : Nat} {h : xHi} {t s : Int32} (J : J9 K (h.1 0)) (G : GQ m (h.1 0)) (D : DR K m (h.1 0) (mendS (h.1 0) t s)) (H : HI E w x h) (hp : ∀ u h2 r, DD K m h h2 r → N9 (h.1 0) (h2.1 0) → HI E u x h2 → FX w u x h h2 → Po (.inl (some (.int r))) u) : Ct M_L_mend E [.ref x, .int t, .int s] w Po := by
  rcases D with ⟨v, hv, ev, J1, G1⟩ | ⟨e1, a, b, h1, h2, e2⟩
  · exact ct_L_mend 0 (nI v) (fun g => g = hK (upS (hN h) 0 (mendS (h.1 0) t s).2)) H (by decide) (fun _ e => by rw [e]; rfl) (fun Po q => ct_X9_mend H (hS_ok hv ev (fun u Hu fu => q u _ rfl Hu fu))) (fun u h2 e Hu fu => by subst e; exact hp u _ _ ⟨J1, G1, Or.inl ⟨v, hv, rfl⟩, by rfl, Or.inr (by rfl)⟩ n9_mend Hu fu)
  · exact ct_L_mend 2 0 (fun g => g = upS (hN h) 0 (mendS (h.1 0) t s).2) H (by decide) (fun _ e => by rw [e]; rfl) (fun Po q => ct_X9_mend H (hS_1 e1 (fun u Hu fu => q u _ rfl Hu fu))) (fun u h2 e Hu fu => by subst e; exact hp u _ (-2) ⟨(show J9 (K + 240) (mendS (h.1 0) t s).2 by rw [e2]; exact (j_R J).mono (by omega)), (show GQ m (mendS (h.1 0) t s).2 by rw [e2]; exact G.ag J ((AG.id.S (by decide)).S (by decide))), Or.inr ⟨by decide, a, h1, h2, (show (mendS (h.1 0) t s).2.1 10 = nI a by rw [e2]; exact cR_10)⟩, by rfl, Or.inl (by rfl)⟩ n9_mend Hu fu)
theorem nt_wash_2 {d : xCo} {t : Int32} : (mWash d t).1 ≠ -2 := by
  unfold mWash
  repeat' split
  all_goals first | exact (by decide : (0 : Int32) ≠ -2) | exact (by decide : (-1 : Int32) ≠ -2) | exact (by decide : (-3 : Int32) ≠ -2)
theorem lu_wash {E : xE} {Po : xPo} {w : xW} {x K : Nat} {h : xHi} {t : Int32} (J : J9 K (h.1 0)) (hK9 : K + 240 < 16000000) (H : HI E w x h) (hp : ∀ u h2 r, UC (K + 240) h h2 r → HI E u x h2 → FX w u x h h2 → Po (.inl (some (.int r))) u) : Ct M_L_wash E [.ref x, .int t] w Po := by
  rcases (sim_wash R9.rfl9 J (by omega) : OK9 K (h.1 0) (h.1 0) (washS (h.1 0) t) (mWash (h.1 0) t)) with ⟨o1, o2, ⟨v, hv, ev⟩, -, o4⟩ | ⟨o1, o2, a, b, -, o4, -⟩ | ⟨o1, o2, o3, -⟩ | ⟨o1, o2, o3, -⟩
  · exact ct_L_wash 0 (nI v) (fun g => g = hK (upS (hN h) 0 (washS (h.1 0) t).2)) H (by decide) (fun _ e => by rw [e]; rfl) (fun Po q => ct_X9_wash H (hS_ok hv ev (fun u Hu fu => q u _ rfl Hu fu))) (fun u h2 e Hu fu => by subst e; exact hp u _ _ (uc_ok hv o4) Hu fu)
  · exact ct_L_wash 2 0 (fun g => g = upS (hN h) 0 (washS (h.1 0) t).2) H (by decide) (fun _ e => by rw [e]; rfl) (fun Po q => ct_X9_wash H (hS_1 o2 (fun u Hu fu => q u _ rfl Hu fu))) (fun u h2 e Hu fu => by subst e; exact hp u _ (-2) (uc_no (by decide) (by rw [o4]; exact eq_R) (by rw [o4]; exact (j_R J).mono (by omega))) Hu fu)
  · exact absurd o1 nt_wash_2
  · exact ct_L_wash 1 0 (fun g => g = upS (hN h) 0 (washS (h.1 0) t).2) H (by decide) (fun _ e => by rw [e]; rfl) (fun Po q => ct_X9_wash H (hS_3 o2 (fun u Hu fu => q u _ rfl Hu fu))) (fun u h2 e Hu fu => by subst e; exact hp u _ (-1) (uc_no (by decide) (by rw [o3]; exact EQ9.rf) (by rw [o3]; exact J.mono (by omega))) Hu fu)
theorem n9_wash {c : xCo} {t : Int32} : N9 c (washS c t).2 := by
  unfold washS
  repeat' split
  all_goals exact ⟨rfl, rfl, rfl⟩
theorem ld_wash {E : xE} {Po : xPo} {w : xW} {x K m : Nat} {h : xHi} {t : Int32} (J : J9 K (h.1 0)) (G : GQ m (h.1 0)) (D : DR K m (h.1 0) (washS (h.1 0) t)) (H : HI E w x h) (hp : ∀ u h2 r, DD K m h h2 r → N9 (h.1 0) (h2.1 0) → HI E u x h2 → FX w u x h h2 → Po (.inl (some (.int r))) u) : Ct M_L_wash E [.ref x, .int t] w Po := by
  rcases D with ⟨v, hv, ev, J1, G1⟩ | ⟨e1, a, b, h1, h2, e2⟩
  · exact ct_L_wash 0 (nI v) (fun g => g = hK (upS (hN h) 0 (washS (h.1 0) t).2)) H (by decide) (fun _ e => by rw [e]; rfl) (fun Po q => ct_X9_wash H (hS_ok hv ev (fun u Hu fu => q u _ rfl Hu fu))) (fun u h2 e Hu fu => by subst e; exact hp u _ _ ⟨J1, G1, Or.inl ⟨v, hv, rfl⟩, by rfl, Or.inr (by rfl)⟩ n9_wash Hu fu)
  · exact ct_L_wash 2 0 (fun g => g = upS (hN h) 0 (washS (h.1 0) t).2) H (by decide) (fun _ e => by rw [e]; rfl) (fun Po q => ct_X9_wash H (hS_1 e1 (fun u Hu fu => q u _ rfl Hu fu))) (fun u h2 e Hu fu => by subst e; exact hp u _ (-2) ⟨(show J9 (K + 240) (washS (h.1 0) t).2 by rw [e2]; exact (j_R J).mono (by omega)), (show GQ m (washS (h.1 0) t).2 by rw [e2]; exact G.ag J ((AG.id.S (by decide)).S (by decide))), Or.inr ⟨by decide, a, h1, h2, (show (washS (h.1 0) t).2.1 10 = nI a by rw [e2]; exact cR_10)⟩, by rfl, Or.inl (by rfl)⟩ n9_wash Hu fu)
theorem nt_soap_2 {d : xCo} {t : Int32} : (mSoap d t).1 ≠ -2 := by
  unfold mSoap
  repeat' split
  all_goals first | exact (by decide : (0 : Int32) ≠ -2) | exact (by decide : (-1 : Int32) ≠ -2) | exact (by decide : (-3 : Int32) ≠ -2)
theorem lu_soap {E : xE} {Po : xPo} {w : xW} {x K : Nat} {h : xHi} {t : Int32} (J : J9 K (h.1 0)) (hK9 : K + 240 < 16000000) (H : HI E w x h) (hp : ∀ u h2 r, UC (K + 240) h h2 r → HI E u x h2 → FX w u x h h2 → Po (.inl (some (.int r))) u) : Ct M_L_soap E [.ref x, .int t] w Po := by
  rcases (sim_soap R9.rfl9 J (by omega) : OK9 K (h.1 0) (h.1 0) (soapS (h.1 0) t) (mSoap (h.1 0) t)) with ⟨o1, o2, ⟨v, hv, ev⟩, -, o4⟩ | ⟨o1, o2, a, b, -, o4, -⟩ | ⟨o1, o2, o3, -⟩ | ⟨o1, o2, o3, -⟩
  · exact ct_L_soap 0 (nI v) (fun g => g = hK (upS (hN h) 0 (soapS (h.1 0) t).2)) H (by decide) (fun _ e => by rw [e]; rfl) (fun Po q => ct_X9_soap H (hS_ok hv ev (fun u Hu fu => q u _ rfl Hu fu))) (fun u h2 e Hu fu => by subst e; exact hp u _ _ (uc_ok hv o4) Hu fu)
  · exact ct_L_soap 2 0 (fun g => g = upS (hN h) 0 (soapS (h.1 0) t).2) H (by decide) (fun _ e => by rw [e]; rfl) (fun Po q => ct_X9_soap H (hS_1 o2 (fun u Hu fu => q u _ rfl Hu fu))) (fun u h2 e Hu fu => by subst e; exact hp u _ (-2) (uc_no (by decide) (by rw [o4]; exact eq_R) (by rw [o4]; exact (j_R J).mono (by omega))) Hu fu)
  · exact absurd o1 nt_soap_2
  · exact ct_L_soap 1 0 (fun g => g = upS (hN h) 0 (soapS (h.1 0) t).2) H (by decide) (fun _ e => by rw [e]; rfl) (fun Po q => ct_X9_soap H (hS_3 o2 (fun u Hu fu => q u _ rfl Hu fu))) (fun u h2 e Hu fu => by subst e; exact hp u _ (-1) (uc_no (by decide) (by rw [o3]; exact EQ9.rf) (by rw [o3]; exact J.mono (by omega))) Hu fu)
theorem n9_soap {c : xCo} {t : Int32} : N9 c (soapS c t).2 := by
  unfold soapS
  repeat' split
  all_goals exact ⟨rfl, rfl, rfl⟩
theorem ld_soap {E : xE} {Po : xPo} {w : xW} {x K m : Nat} {h : xHi} {t : Int32} (J : J9 K (h.1 0)) (G : GQ m (h.1 0)) (D : DR K m (h.1 0) (soapS (h.1 0) t)) (H : HI E w x h) (hp : ∀ u h2 r, DD K m h h2 r → N9 (h.1 0) (h2.1 0) → HI E u x h2 → FX w u x h h2 → Po (.inl (some (.int r))) u) : Ct M_L_soap E [.ref x, .int t] w Po := by
  rcases D with ⟨v, hv, ev, J1, G1⟩ | ⟨e1, a, b, h1, h2, e2⟩
  · exact ct_L_soap 0 (nI v) (fun g => g = hK (upS (hN h) 0 (soapS (h.1 0) t).2)) H (by decide) (fun _ e => by rw [e]; rfl) (fun Po q => ct_X9_soap H (hS_ok hv ev (fun u Hu fu => q u _ rfl Hu fu))) (fun u h2 e Hu fu => by subst e; exact hp u _ _ ⟨J1, G1, Or.inl ⟨v, hv, rfl⟩, by rfl, Or.inr (by rfl)⟩ n9_soap Hu fu)
  · exact ct_L_soap 2 0 (fun g => g = upS (hN h) 0 (soapS (h.1 0) t).2) H (by decide) (fun _ e => by rw [e]; rfl) (fun Po q => ct_X9_soap H (hS_1 e1 (fun u Hu fu => q u _ rfl Hu fu))) (fun u h2 e Hu fu => by subst e; exact hp u _ (-2) ⟨(show J9 (K + 240) (soapS (h.1 0) t).2 by rw [e2]; exact (j_R J).mono (by omega)), (show GQ m (soapS (h.1 0) t).2 by rw [e2]; exact G.ag J ((AG.id.S (by decide)).S (by decide))), Or.inr ⟨by decide, a, h1, h2, (show (soapS (h.1 0) t).2.1 10 = nI a by rw [e2]; exact cR_10)⟩, by rfl, Or.inl (by rfl)⟩ n9_soap Hu fu)
theorem lu_gas {E : xE} {Po : xPo} {w : xW} {x K : Nat} {h : xHi} {t s : Int32} (J : J9 K (h.1 0)) (hK9 : K + 240 < 16000000) (H : HI E w x h) (hp : ∀ u h2 r, UC (K + 240) h h2 r → HI E u x h2 → FX w u x h h2 → Po (.inl (some (.int r))) u) : Ct M_L_gas E [.ref x, .int t, .int s] w Po := by
  rcases (sim_gas R9.rfl9 J (by omega) : OK9 K (h.1 0) (h.1 0) (gasS (h.1 0) t s) (mGas (h.1 0) t s)) with ⟨o1, o2, ⟨v, hv, ev⟩, -, o4⟩ | ⟨o1, o2, a, b, -, o4, -⟩ | ⟨o1, o2, o3, -⟩ | ⟨o1, o2, o3, -⟩
  · exact ct_L_gas 0 (nI v) (fun g => g = hK (upS (hN h) 0 (gasS (h.1 0) t s).2)) H (by decide) (fun _ e => by rw [e]; rfl) (fun Po q => ct_X9_gas H (hS_ok hv ev (fun u Hu fu => q u _ rfl Hu fu))) (fun u h2 e Hu fu => by subst e; exact hp u _ _ (uc_ok hv o4) Hu fu)
  · exact ct_L_gas 3 0 (fun g => g = upS (hN h) 0 (gasS (h.1 0) t s).2) H (by decide) (fun _ e => by rw [e]; rfl) (fun Po q => ct_X9_gas H (hS_1 o2 (fun u Hu fu => q u _ rfl Hu fu))) (fun u h2 e Hu fu => by subst e; exact hp u _ (-3) (uc_no (by decide) (by rw [o4]; exact eq_R) (by rw [o4]; exact (j_R J).mono (by omega))) Hu fu)
  · exact ct_L_gas 1 0 (fun g => g = upS (hN h) 0 (gasS (h.1 0) t s).2) H (by decide) (fun _ e => by rw [e]; rfl) (fun Po q => ct_X9_gas H (hS_2 o2 (fun u Hu fu => q u _ rfl Hu fu))) (fun u h2 e Hu fu => by subst e; exact hp u _ (-1) (uc_no (by decide) (by rw [o3]; exact EQ9.rf) (by rw [o3]; exact J.mono (by omega))) Hu fu)
  · exact ct_L_gas 2 0 (fun g => g = upS (hN h) 0 (gasS (h.1 0) t s).2) H (by decide) (fun _ e => by rw [e]; rfl) (fun Po q => ct_X9_gas H (hS_3 o2 (fun u Hu fu => q u _ rfl Hu fu))) (fun u h2 e Hu fu => by subst e; exact hp u _ (-2) (uc_no (by decide) (by rw [o3]; exact EQ9.rf) (by rw [o3]; exact J.mono (by omega))) Hu fu)
theorem n9_gas {c : xCo} {t s : Int32} : N9 c (gasS c t s).2 := by
  unfold gasS
  repeat' split
  all_goals exact ⟨rfl, rfl, rfl⟩
theorem ld_gas {E : xE} {Po : xPo} {w : xW} {x K m : Nat} {h : xHi} {t s : Int32} (J : J9 K (h.1 0)) (G : GQ m (h.1 0)) (D : DR K m (h.1 0) (gasS (h.1 0) t s)) (H : HI E w x h) (hp : ∀ u h2 r, DD K m h h2 r → N9 (h.1 0) (h2.1 0) → HI E u x h2 → FX w u x h h2 → Po (.inl (some (.int r))) u) : Ct M_L_gas E [.ref x, .int t, .int s] w Po := by
  rcases D with ⟨v, hv, ev, J1, G1⟩ | ⟨e1, a, b, h1, h2, e2⟩
  · exact ct_L_gas 0 (nI v) (fun g => g = hK (upS (hN h) 0 (gasS (h.1 0) t s).2)) H (by decide) (fun _ e => by rw [e]; rfl) (fun Po q => ct_X9_gas H (hS_ok hv ev (fun u Hu fu => q u _ rfl Hu fu))) (fun u h2 e Hu fu => by subst e; exact hp u _ _ ⟨J1, G1, Or.inl ⟨v, hv, rfl⟩, by rfl, Or.inr (by rfl)⟩ n9_gas Hu fu)
  · exact ct_L_gas 3 0 (fun g => g = upS (hN h) 0 (gasS (h.1 0) t s).2) H (by decide) (fun _ e => by rw [e]; rfl) (fun Po q => ct_X9_gas H (hS_1 e1 (fun u Hu fu => q u _ rfl Hu fu))) (fun u h2 e Hu fu => by subst e; exact hp u _ (-3) ⟨(show J9 (K + 240) (gasS (h.1 0) t s).2 by rw [e2]; exact (j_R J).mono (by omega)), (show GQ m (gasS (h.1 0) t s).2 by rw [e2]; exact G.ag J ((AG.id.S (by decide)).S (by decide))), Or.inr ⟨by decide, a, h1, h2, (show (gasS (h.1 0) t s).2.1 10 = nI a by rw [e2]; exact cR_10)⟩, by rfl, Or.inl (by rfl)⟩ n9_gas Hu fu)
theorem nt_pass_1 {d : xCo} {t : Int32} : (mPass d t).1 ≠ -1 := by
  unfold mPass
  repeat' split
  all_goals first | exact (by decide : (0 : Int32) ≠ -1) | exact (by decide : (-2 : Int32) ≠ -1) | exact (by decide : (-3 : Int32) ≠ -1)
theorem nt_pass_2 {d : xCo} {t : Int32} : (mPass d t).1 ≠ -2 := by
  unfold mPass
  repeat' split
  all_goals first | exact (by decide : (0 : Int32) ≠ -2) | exact (by decide : (-1 : Int32) ≠ -2) | exact (by decide : (-3 : Int32) ≠ -2)
theorem lu_pass {E : xE} {Po : xPo} {w : xW} {x K : Nat} {h : xHi} {t : Int32} (J : J9 K (h.1 0)) (hK9 : K + 240 < 16000000) (H : HI E w x h) (hp : ∀ u h2 r, UC (K + 240) h h2 r → HI E u x h2 → FX w u x h h2 → Po (.inl (some (.int r))) u) : Ct M_L_pass E [.ref x, .int t] w Po := by
  rcases (sim_pass R9.rfl9 J (by omega) : OK9 K (h.1 0) (h.1 0) (passS (h.1 0) t) (mPass (h.1 0) t)) with ⟨o1, o2, ⟨v, hv, ev⟩, -, o4⟩ | ⟨o1, o2, a, b, -, o4, -⟩ | ⟨o1, o2, o3, -⟩ | ⟨o1, o2, o3, -⟩
  · exact ct_L_pass 0 (nI v) (fun g => g = hK (upS (hN h) 0 (passS (h.1 0) t).2)) H (by decide) (fun _ e => by rw [e]; rfl) (fun Po q => ct_X9_pass H J.inC (hS_ok hv ev (fun u Hu fu => q u _ rfl Hu fu))) (fun u h2 e Hu fu => by subst e; exact hp u _ _ (uc_ok hv o4) Hu fu)
  · exact absurd o1 nt_pass_1
  · exact absurd o1 nt_pass_2
  · exact ct_L_pass 1 0 (fun g => g = upS (hN h) 0 (passS (h.1 0) t).2) H (by decide) (fun _ e => by rw [e]; rfl) (fun Po q => ct_X9_pass H J.inC (hS_3 o2 (fun u Hu fu => q u _ rfl Hu fu))) (fun u h2 e Hu fu => by subst e; exact hp u _ (-1) (uc_no (by decide) (by rw [o3]; exact EQ9.rf) (by rw [o3]; exact J.mono (by omega))) Hu fu)
theorem n9_pass {c : xCo} {t : Int32} : N9 c (passS c t).2 := by
  unfold passS
  split
  · exact ⟨rfl, rfl, rfl⟩
  · split
    · exact ⟨hoursS_1 (by decide) (by decide) _ _, hoursS_1 (by decide) (by decide) _ _, hoursS_1 (by decide) (by decide) _ _⟩
    · exact ⟨rfl, rfl, rfl⟩
theorem ld_pass {E : xE} {Po : xPo} {w : xW} {x K m : Nat} {h : xHi} {t : Int32} (J : J9 K (h.1 0)) (G : GQ m (h.1 0)) (D : DR K m (h.1 0) (passS (h.1 0) t)) (H : HI E w x h) (hp : ∀ u h2 r, DD K m h h2 r → N9 (h.1 0) (h2.1 0) → HI E u x h2 → FX w u x h h2 → Po (.inl (some (.int r))) u) (hx : (passS (h.1 0) t).1 ≠ -1) : Ct M_L_pass E [.ref x, .int t] w Po := by
  rcases D with ⟨v, hv, ev, J1, G1⟩ | ⟨e1, a, b, h1, h2, e2⟩
  · exact ct_L_pass 0 (nI v) (fun g => g = hK (upS (hN h) 0 (passS (h.1 0) t).2)) H (by decide) (fun _ e => by rw [e]; rfl) (fun Po q => ct_X9_pass H J.inC (hS_ok hv ev (fun u Hu fu => q u _ rfl Hu fu))) (fun u h2 e Hu fu => by subst e; exact hp u _ _ ⟨J1, G1, Or.inl ⟨v, hv, rfl⟩, by rfl, Or.inr (by rfl)⟩ n9_pass Hu fu)
  · exact absurd e1 hx
