/-! ===== 67.later: what comes when only hours go by ===== -/
theorem hours_s : ∀ (n : Nat) (c : xCo), hoursS (n + 1) c = hourS (hoursS n c)
  | 0, _ => rfl
  | n + 1, c => by
    show hoursS (n + 1) (hourS c) = hourS (hoursS n (hourS c))
    exact hours_s n (hourS c)
theorem jn_of {K : Nat} {c : xCo} (J : J9 K c) : JN c := J.1
/-- the same tents: the same guests wait -/
theorem aw_R {K K2 : Nat} {a b m : xCo} {x : Int32} (Ja : J9 K a) (ha : R9 a m) (hb : R9 b m) : AW a x → AW b x := by
  rintro ⟨u, p, h1, h2, h3⟩
  have n5 := Ja.1.2.1.2
  obtain ⟨w1, w2⟩ := Ja.wtq (u := u) (by omega)
  have e2 : n2 b = n2 a := congrArg Int32.toNatClampNeg ((hb.1 2 (by decide)).trans (ha.1 2 (by decide)).symm)
  have hu : u < n2 b := by rw [e2]; exact h1
  have e : ∀ k, k < 11 → b.2.2.1 u k = a.2.2.1 u k := fun k hk => (hb.2.2.1 u hu k hk).trans (ha.2.2.1 u h1 k hk).symm
  exact ⟨u, p, hu, by unfold wt at h2 ⊢; rw [e 4 (by decide)]; exact h2, by rw [e (5 + p) (by omega)]; exact h3⟩
theorem r9_eq {K : Nat} {c e : xCo} (J : J9 K c) (h : EQ9 c e) : R9 e c := R9.eq R9.rfl9 J.1 h EQ9.rf
theorem aw_hours {K n : Nat} {c e : xCo} {x : Int32} (J : J9 K c) (h : EQ9 c e) (hK : K + 5 * n < 16000000) : AW (hoursS n e) x ↔ AW (hoursS n c) x := by
  obtain ⟨-, -, -, r1, j1, -⟩ := sim_hours n K c c 0 R9.rfl9 J hK
  obtain ⟨-, -, -, r2, j2, -⟩ := sim_hours n K e c 0 (r9_eq J h) (J.eq h) hK
  exact ⟨aw_R (K2 := 0) j2 r2 r1, aw_R (K2 := 0) j1 r1 r2⟩
theorem st_hours {K m : Nat} {c : xCo} (J : J9 K c) (G : GQ m c) (hm : m < 1000000) (i : Nat) : ∀ (j : Nat), K + 5 * (i + j) < 16000000 → ∀ x, AW (hoursS (i + j) c) x → AW (hoursS i c) x
  | 0, _, _, h => h
  | j + 1, hK, x, h => by
    obtain ⟨J1, G1, S1⟩ := gq_hours (i + j) K m c J G hm (by omega)
    obtain ⟨J2, G2, S2⟩ := gq_hour J1 G1 hm (by omega)
    refine st_hours J G hm i j (by omega) x (S2.2.1 x ?_)
    rw [← hours_s]; exact h
/-- the first hour after which nobody of this number waits -/
theorem hbF_spec {K : Nat} {c d : xCo} {x : Int32} (J : J9 K c) (h : EQ9 c d) : ∀ (z k : Nat), 1 ≤ k → k + z ≤ 61 → K + 400 < 16000000 →
    ((hbF x (n2 c) z k (hoursS (k - 1) d)).1 = -1 ∧ ∀ j, k ≤ j → j < k + z → AW (hoursS j c) x) ∨ (∃ j, k ≤ j ∧ j < k + z ∧ (hbF x (n2 c) z k (hoursS (k - 1) d)).1 = nI j ∧ ¬ AW (hoursS j c) x ∧ ∀ i, k ≤ i → i < j → AW (hoursS i c) x)
  | 0, k, _, _, _ => Or.inl ⟨rfl, fun j h1 h2 => by omega⟩
  | z + 1, k, hk, hz, hK => by
    have e1 : (passS (hoursS (k - 1) d) 1).2 = hoursS k d := by
      show hourS (hoursS (k - 1) d) = _
      rw [← hours_s, show k - 1 + 1 = k by omega]
    obtain ⟨-, -, -, r2, j2, -⟩ := sim_hours k K d c 0 (r9_eq J h) (J.eq h) (by omega)
    have e2 : n2 (hoursS k d) = n2 c := by
      have a1 : (hoursS k d).1 2 = d.1 2 := hoursS_1 (by decide) (by decide) k d
      unfold n2
      rw [a1, h.1 2 (by decide)]
    have e3 : awtS (hoursS k d) x (n2 c) 0 = 0 ↔ ¬ AW (hoursS k c) x := by
      rw [← e2, aw_iff j2, aw_hours J h (by omega)]
    unfold hbF
    rw [e1]
    by_cases q : awtS (hoursS k d) x (n2 c) 0 = 0
    · rw [if_pos q]
      exact Or.inr ⟨k, Nat.le_refl _, by omega, rfl, e3.mp q, fun i h1 h2 => by omega⟩
    · rw [if_neg q]
      have q2 : AW (hoursS k c) x := Classical.byContradiction fun y => q (e3.mpr y)
      rcases hbF_spec (x := x) J h z (k + 1) (by omega) (by omega) hK with ⟨h1, h2⟩ | ⟨j, h1, h2, h3, h4, h5⟩
      · refine Or.inl ⟨h1, fun j a b => ?_⟩
        by_cases y : j = k
        · rw [y]; exact q2
        · exact h2 j (by omega) (by omega)
      · refine Or.inr ⟨j, by omega, by omega, h3, h4, fun i a b => ?_⟩
        by_cases y : i = k
        · rw [y]; exact q2
        · exact h5 i (by omega) b
/-- what the law keeps of the forecasts -/
def InP (c : xCo) (f : Nat → Int32) (n : Nat) : Prop := ∀ g, g < n → ∀ y, 1 ≤ y → y ≤ 60 → ((¬ f g ≤ 0 ∧ f g ≤ nI y) ↔ (AW c (nI g) ∧ ¬ AW (hoursS y c) (nI g)))
theorem InP.eq {K n : Nat} {c e : xCo} {f : Nat → Int32} (I : InP c f n) (J : J9 K c) (h : EQ9 c e) (hK : K + 400 < 16000000) : InP e f n := by
  intro g hg y h1 h2
  have a0 : AW e (nI g) ↔ AW c (nI g) := aw_hours (n := 0) J h (by omega)
  have a1 : AW (hoursS y e) (nI g) ↔ AW (hoursS y c) (nI g) := aw_hours J h (by omega)
  rw [a0, a1]
  exact I g hg y h1 h2
theorem bath_spec {K m : Nat} {c d : xCo} {g : Int32} (J : J9 K c) (G : GQ m c) (hm : m < 1000000) (h : EQ9 c d) (hK : K + 400 < 16000000) (y : Nat) (h1 : 1 ≤ y) (h2 : y ≤ 60) : (¬ lBath c d g (n2 c) ≤ 0 ∧ lBath c d g (n2 c) ≤ nI y) ↔ (AW c g ∧ ¬ AW (hoursS y c) g) := by
  unfold lBath
  by_cases q : awtS c g (n2 c) 0 = 0
  · rw [if_pos q]
    have := (aw_iff J).mp q
    exact ⟨fun z => absurd (show (-13 : Int32) ≤ 0 by decide) z.1, fun z => absurd z.1 this⟩
  · rw [if_neg q]
    have q2 : AW c g := Classical.byContradiction fun z => q ((aw_iff J).mpr z)
    rcases hbF_spec (x := g) J h 60 1 (Nat.le_refl _) (by omega) hK with ⟨k1, k2⟩ | ⟨j, k1, k2, k3, k4, k5⟩
    · have k1 : (hbF g (n2 c) 60 1 d).1 = -1 := k1
      rw [k1, if_neg (by decide)]
      refine ⟨fun z => absurd (show (-13 : Int32) ≤ 0 by decide) z.1, fun z => absurd (k2 y h1 (by omega)) z.2⟩
    · have k3 : (hbF g (n2 c) 60 1 d).1 = nI j := k3
      rw [k3, if_pos (nI_pos' (by omega))]
      constructor
      · rintro ⟨-, z⟩
        have hj : j ≤ y := (nI_leI (by omega) (by omega)).mp z
        refine ⟨q2, fun z2 => k4 ?_⟩
        have := st_hours J G hm j (y - j) (by omega) g
        rw [show j + (y - j) = y by omega] at this
        exact this z2
      · rintro ⟨-, z⟩
        refine ⟨nI_nle (by omega) (by omega), nI_le ?_ (by omega)⟩
        exact Nat.not_lt.mp fun z2 => z (k5 y h1 z2)
/-- a number that waits came -/
theorem aw_came {m : Nat} {c : xCo} {x : Int32} {K : Nat} (J : J9 K c) (G : GQ m c) (hm : m < 1000000) (h : AW c x) : ∃ g, x = nI g ∧ g < 1000000 ∧ nI g < c.1 8 ∧ ∀ ca, c.1 8 = nI ca → ca < 1000000 → g < ca := by
  have n5 := J.1.2.1.2
  obtain ⟨cl, us, ca, ba, ⟨a1, a2, a3, a4⟩, ⟨b1, b2, b3⟩, e, f, Q, D⟩ := G
  obtain ⟨u, p, h1, h2, h3⟩ := h
  obtain ⟨g, hg, eg⟩ := Q.1 u (by omega) p h2
  refine ⟨g, h3.symm.trans eg, by omega, by rw [a3]; exact nI_lt hg (by omega), fun cb e hb => ?_⟩
  have := nI_inj (by omega) (by omega) (a3.symm.trans e)
  omega
/-- how many bathe in so many hours -/
def dueN (f : Nat → Int32) (y : Nat) (g : Nat) : Nat := if f g ≤ 0 then 0 else if f g ≤ nI y then 1 else 0
theorem GQ.tight {m n : Nat} {c : xCo} (G : GQ m c) (hm : m < 1000000) (hn : c.1 8 = nI n) (hn2 : n < 1000000) : GQ n c := by
  obtain ⟨cl, us, ca, ba, ⟨a1, a2, a3, a4⟩, ⟨b1, b2, b3⟩, r⟩ := G
  have hca : ca = n := nI_inj (by omega) (by omega) (a3.symm.trans hn)
  exact ⟨cl, us, ca, ba, ⟨a1, a2, a3, a4⟩, ⟨b1, b2, by omega⟩, r⟩
theorem due_e {K m n y : Nat} {c : xCo} {f : Nat → Int32} (J : J9 K c) (G : GQ m c) (hm : m < 1000000) (hK : K + 400 < 16000000) (hn : c.1 8 = nI n) (hn2 : n < 1000000) (I : InP c f n) (h1 : 1 ≤ y) (h2 : y ≤ 48) : (hoursS y c).1 9 - c.1 9 = nI (sN (dueN f y) n) := by
  have Gn := G.tight hm hn hn2
  obtain ⟨J1, G1, S1⟩ := gq_hours y K n c J Gn hn2 (by omega)
  have nine : ∀ d, GQ n d → d.1 9 = nI (s9 d) := fun d Gd => by
    obtain ⟨cl, us, ca, ba, ⟨a1, a2, a3, a4⟩, ⟨b1, b2, b3⟩, -⟩ := Gd
    unfold s9
    rw [a4, nI_cl (by omega)]
  have key : sN (dueN f y) n + sN (aB (hoursS y c)) n = sN (aB c) n := by
    refine sN_sub n (fun g hg => ?_)
    have k := I g hg y h1 (by omega)
    by_cases w1 : AW c (nI g)
    · rw [aB_1 J w1]
      by_cases w2 : AW (hoursS y c) (nI g)
      · rw [aB_1 J1 w2]
        have : dueN f y g = 0 := by
          unfold dueN
          by_cases z : f g ≤ 0
          · exact if_pos z
          · rw [if_neg z, if_neg (fun z2 => (k.mp ⟨z, z2⟩).2 w2)]
        omega
      · rw [aB_0 J1 w2]
        obtain ⟨z, z2⟩ := k.mpr ⟨w1, w2⟩
        have : dueN f y g = 1 := by
          unfold dueN
          rw [if_neg z, if_pos z2]
        omega
    · have w2 : ¬ AW (hoursS y c) (nI g) := fun z => w1 (S1.2.1 _ z)
      rw [aB_0 J w1, aB_0 J1 w2]
      unfold dueN
      by_cases z : f g ≤ 0
      · rw [if_pos z]
      · rw [if_neg z, if_neg (fun z2 => w1 (k.mp ⟨z, z2⟩).1)]
  have h9 := S1.2.2 n (Nat.le_refl _) hn2
  rw [nine _ G1, nine _ Gn, pk_sub (by omega), show s9 (hoursS y c) - s9 c = sN (dueN f y) n by omega]
