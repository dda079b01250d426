/-! ===== 54.hours: an hour goes by, on both sides ===== -/
theorem okT_in {K : Nat} {c : xCo} {v : Nat} (J : J9 K c) (h : v < n1 c) : okT c (nI v) := by
  have a := J.1.1
  refine ⟨nI_pos (by omega), fun q => ?_, fun q => ?_⟩
  · rw [a.1] at q
    have := (nI_leI (by omega) (by omega)).mp q; omega
  · have := (nI_leI (a := 8) (by omega) (by omega)).mp q; omega
theorem okG_in {K : Nat} {c : xCo} {v : Nat} (J : J9 K c) (h : v < n3 c) : okG c (nI v) := by
  have a := J.1.2.2
  refine ⟨nI_pos (by omega), fun q => ?_, fun q => ?_⟩
  · rw [a.1] at q
    have := (nI_leI (by omega) (by omega)).mp q; omega
  · have := (nI_leI (a := 4) (by omega) (by omega)).mp q; omega
theorem mx0 {a b : Nat} (ha : a < 100000) (hb : b < 100000) : mx 0 (nI a - nI b) = nI (a - b) := by
  unfold mx
  by_cases h : b < a
  · rw [if_pos (by rw [pk_sub (by omega)]; exact nI_lt (a := 0) (by omega) (by omega)), pk_sub (by omega)]
  · have : ¬ (0 : Int32) < nI a - nI b := by
      rw [Int32.lt_iff_toInt_lt, pk_sub_toInt (by omega) (by omega), Int32.toInt_zero]
      omega
    rw [if_neg this, show a - b = 0 by omega]; rfl
theorem mx10 {a b : Nat} (h : b ≤ a) (ha : a < 100000) : mx 10 (nI a - nI b) = nI (if 10 < a - b then a - b else 10) := by
  unfold mx
  rw [pk_sub h]
  by_cases q : 10 < a - b
  · rw [if_pos q, if_pos (show (10 : Int32) < nI (a - b) from nI_lt (a := 10) q (by omega))]
  · rw [if_neg q, if_neg (show ¬ (10 : Int32) < nI (a - b) from nI_nlt (b := a - b) (a := 10) (by omega) (by decide))]; rfl
/-- cooling, heating: what is left of the hour -/
theorem sim_tail {K : Nat} {c d : xCo} {i j : Nat} (R : R9 c d) (J : J9 K c) (hi : i < n2 c) (hj : j < n1 c) (hw : c.2.1 j 4 = d.2.1 j 4) : R9 (tailS c i j) (mTl d i j (c.2.1 j 4)) ∧ J9 K (tailS c i j) ∧ n2 (tailS c i j) = n2 c ∧ (tailS c i j).1 9 = c.1 9 := by
  have n8 := J.1.1.2
  have n5 := J.1.2.1.2
  have n4 := J.1.2.2.2
  obtain ⟨w, w1, w2, ew⟩ := (J.2.2.1 j (by omega)).2.2.2.1
  obtain ⟨z, hz, ez⟩ := (J.2.2.1 j (by omega)).1
  have hz0 : z ≠ 0 := fun q => J.2.2.2.2.2.2.2 j hj (by rw [ez, q]; rfl)
  have ec : mx 10 (c.2.1 j 4 - 1) = nI (if 10 < w - 1 then w - 1 else 10) := by rw [ew]; exact mx10 (b := 1) (by omega) (by omega)
  have cool : ∀ c' d' : xCo, R9 c' d' → J9 K c' → n1 c' = n1 c → n2 c' = n2 c → c'.1 9 = c.1 9 → R9 (cT c' j 4 (mx 10 (c.2.1 j 4 - 1))) (mCl d' j (c.2.1 j 4)) ∧ J9 K (cT c' j 4 (mx 10 (c.2.1 j 4 - 1))) ∧ n2 (cT c' j 4 (mx 10 (c.2.1 j 4 - 1))) = n2 c ∧ (cT c' j 4 (mx 10 (c.2.1 j 4 - 1))).1 9 = c.1 9 := by
    intro c' d' R' J' a1 a2 a3
    refine ⟨r_T R' (by decide), ?_, a2, a3⟩
    rw [ec]
    exact j_T J' (by rw [a1]; exact hj) (by decide) ((J'.2.2.1 j (by omega)).k4 (by split <;> omega) (by split <;> omega))
  unfold tailS mTl
  rw [← R.2.2.1 i hi 2 (by decide)]
  rcases J.2.2.2.2.2.1.2.2.1 i (by omega) with e | ⟨g, hg, e, -⟩
  · have hb : burnS c (c.2.2.1 i 2) = (0, c) := by
      unfold burnS
      rw [e, if_neg (fun q : okG c (-1) => q.1 (by decide))]
    rw [hb, if_pos (show ((0 : Int32), c).1 = 0 from rfl), e, if_pos m1]
    by_cases h60 : 60 ≤ c.2.1 j 4
    · rw [if_pos h60]; exact cool c d R J rfl rfl rfl
    · rw [if_neg h60]; exact cool c d R J rfl rfl rfl
  · rw [e, if_neg (nI_pos (by omega)), nI_cl (by omega), ← R.2.2.2 g hg 0 (by decide), ← (R.2.1 j hj).1 0 (by decide) (by decide)]
    obtain ⟨q, hq, eq⟩ := J.2.2.2.2.1 g (by omega)
    by_cases hq0 : q = 0
    · have hb : burnS c (nI g) = (0, c) := by
        unfold burnS
        rw [if_pos (okG_in J hg), nI_cl (by omega), eq, hq0, if_neg (show ¬ (0 : Int32) < nI 0 from by decide)]
      rw [hb, if_pos (show ((0 : Int32), c).1 = 0 from rfl), eq, hq0, if_pos (show nI 0 ≤ (0 : Int32) from by decide)]
      by_cases h60 : 60 ≤ c.2.1 j 4
      · rw [if_pos h60]; exact cool c d R J rfl rfl rfl
      · rw [if_neg h60]; exact cool c d R J rfl rfl rfl
    · have hb : burnS c (nI g) = (1, cG c g 0 (nI q - 1)) := by
        unfold burnS
        rw [if_pos (okG_in J hg), nI_cl (by omega), eq, if_pos (show (0 : Int32) < nI q from nI_lt (a := 0) (by omega) (by omega))]
      rw [hb, eq, if_neg (show ¬ nI q ≤ (0 : Int32) from nI_nle (by omega) (by omega))]
      by_cases h60 : 60 ≤ c.2.1 j 4
      · rw [if_pos h60, if_pos h60]; exact cool c d R J rfl rfl rfl
      · rw [if_neg h60, if_neg h60, if_neg (show ¬ (1 : Int32) = 0 by decide)]
        have eh : heatS (c.2.1 j 0) (c.2.1 j 4) = mn 60 (c.2.1 j 4 + 12 / c.2.1 j 0) := by
          unfold heatS degS
          rw [if_neg (by rw [ez]; exact nI_nle (by omega) (by omega))]
        have e12 : (12 : Int32) / nI z = nI (12 / z) := pk_div (a := 12) (by decide) (by omega) (by omega)
        have hd12 : 12 / z ≤ 12 := Nat.div_le_self _ _
        generalize 12 / z = r at e12 hd12
        show R9 (cT (cG c g 0 (nI q - 1)) j 4 (heatS (c.2.1 j 0) (c.2.1 j 4))) _ ∧ J9 K (cT (cG c g 0 (nI q - 1)) j 4 (heatS (c.2.1 j 0) (c.2.1 j 4))) ∧ _
        rw [eh]
        refine ⟨r_T (r_G R) (by decide), ?_, rfl, rfl⟩
        rw [ew, ez, e12, nI_a2, show mn 60 (nI (w + r)) = _ from mn_n (a := 60) (by decide) (by omega), show nI q - 1 = nI (q - 1) from pk_sub (b := 1) (by omega)]
        have J1 : J9 K (cG c g 0 (nI (q - 1))) := j_G J hg (by decide) ⟨q - 1, by omega, upd_s⟩
        exact j_T J1 hj (by decide) ((J1.2.2.1 j (by omega)).k4 (by split <;> omega) (by split <;> omega))
theorem mbB_e {d : xCo} {u : Nat} : mbB d u = bthB d u := by
  refine Prod.ext rfl (Prod.ext rfl (Prod.ext ?_ rfl))
  funext a k
  show up2 (cSh (cU d u 3 (d.2.2.1 u 3 + 1)) u).2.2.1 u 4 ((cSh (cU d u 3 (d.2.2.1 u 3 + 1)) u).2.2.1 u 4 - 1) a k = up2 (up2 (cSh d u).2.2.1 u 4 (d.2.2.1 u 4 - 1)) u 3 (up2 (cSh d u).2.2.1 u 4 (d.2.2.1 u 4 - 1) u 3 + 1) a k
  have s4 : (cSh (cU d u 3 (d.2.2.1 u 3 + 1)) u).2.2.1 u 4 = d.2.2.1 u 4 := by
    show (if u = u then shF (up2 d.2.2.1 u 3 (d.2.2.1 u 3 + 1) u) 5 4 else _) = _
    rw [if_pos rfl]
    exact (if_neg (by omega)).trans (up2_k (by decide))
  have s3 : up2 (cSh d u).2.2.1 u 4 (d.2.2.1 u 4 - 1) u 3 = d.2.2.1 u 3 := by
    rw [up2_k (by decide)]
    show (if u = u then shF (d.2.2.1 u) 5 3 else _) = _
    rw [if_pos rfl]
    exact if_neg (by omega)
  rw [s4, s3]
  by_cases ha : a = u
  · subst ha
    by_cases h4 : k = 4
    · subst h4; rw [up2_s, up2_k (by decide), up2_s]
    · by_cases h3 : k = 3
      · subst h3
        rw [up2_k (by decide), up2_s]
        show (if a = a then shF (up2 d.2.2.1 a 3 (d.2.2.1 a 3 + 1) a) 5 3 else _) = _
        rw [if_pos rfl]
        exact (if_neg (by omega)).trans up2_s
      · rw [up2_k h4, up2_k h3, up2_k h4]
        show (if a = a then shF (up2 d.2.2.1 a 3 (d.2.2.1 a 3 + 1) a) 5 k else _) = (if a = a then shF (d.2.2.1 a) 5 k else _)
        rw [if_pos rfl, if_pos rfl]
        unfold shF
        by_cases hk : 5 ≤ k ∧ k < 5 + 5
        · simp only [if_pos hk]; exact up2_k (by omega)
        · simp only [if_neg hk]; exact up2_k h3
  · rw [up2_n ha, up2_n ha, up2_n ha]
    show (if a = u then _ else up2 d.2.2.1 u 3 (d.2.2.1 u 3 + 1) a k) = (if a = u then _ else d.2.2.1 a k)
    rw [if_neg ha, if_neg ha, up2_n ha]
theorem r_Sh {c d : xCo} {v : Nat} (R : R9 c d) (hv : v < n2 c) : R9 (cSh c v) (cSh d v) := by
  obtain ⟨a, b, p, q⟩ := R
  refine ⟨a, b, fun i hi k hk => ?_, q⟩
  show (if i = v then shF (c.2.2.1 i) 5 k else c.2.2.1 i k) = (if i = v then shF (d.2.2.1 i) 5 k else d.2.2.1 i k)
  by_cases e : i = v
  · rw [if_pos e, if_pos e]
    unfold shF
    by_cases hk2 : 5 ≤ k ∧ k < 5 + 5
    · rw [if_pos hk2, if_pos hk2]; exact p i hi _ (by omega)
    · rw [if_neg hk2, if_neg hk2]; exact p i hi k hk
  · rw [if_neg e, if_neg e]; exact p i hi k hk
theorem j_Sh {K : Nat} {c : xCo} {v : Nat} (J : J9 K c) (hv : v < n2 c) : J9 K (cSh c v) := by
  obtain ⟨a, b, t, u, g, ⟨l1, l2, l3, l4⟩, ⟨f1, f2, f3⟩, z⟩ := J
  have e : ∀ i k, k < 5 → (cSh c v).2.2.1 i k = c.2.2.1 i k := by
    intro i k hk
    show (if i = v then shF (c.2.2.1 i) 5 k else c.2.2.1 i k) = c.2.2.1 i k
    by_cases q : i = v
    · rw [if_pos q]; exact if_neg (by omega)
    · rw [if_neg q]
  refine ⟨a, b, t, fun i hi => ?_, g, ⟨fun i hi => ?_, fun i hi => ?_, fun i hi => ?_, fun i hi => ?_⟩, ⟨f1, fun i h1 h2 k hk => ?_, f3⟩, z⟩
  · obtain ⟨⟨s, s1, s2⟩, ⟨m, m1, m2⟩⟩ := u i hi
    exact ⟨⟨s, s1, (e i 0 (by decide)).trans s2⟩, ⟨m, m1, (e i 4 (by decide)).trans m2⟩⟩
  · rcases l1 i hi with h | ⟨w, hw, e4, e5⟩
    · exact Or.inl h
    · exact Or.inr ⟨w, hw, e4, (e w 1 (by decide)).trans e5⟩
  · rw [e i 1 (by decide)]; exact l2 i hi
  · rw [e i 2 (by decide)]; exact l3 i hi
  · rcases l4 i hi with h | ⟨w, hw, e4, e5⟩
    · exact Or.inl h
    · exact Or.inr ⟨w, hw, e4, (e w 2 (by decide)).trans e5⟩
  · have q : i ≠ v := by
      intro q; subst q
      exact absurd hv (Nat.not_lt.mpr h1)
    exact (show (if i = v then shF (c.2.2.1 i) 5 k else c.2.2.1 i k) = c.2.2.1 i k from if_neg q).trans (f2 i h1 h2 k hk)
theorem sim_bthA {K : Nat} {c d : xCo} {j : Nat} (R : R9 c d) (J : J9 K c) (hK : K < 16000000) (hw : c.2.1 j 4 = d.2.1 j 4) (hsoap : ¬ c.1 6 ≤ 0) : R9 (bthA c j) (mbA d (if d.2.1 j 4 < 45 then 3 else 4)) ∧ J9 (K + 1) (bthA c j) := by
  constructor
  · unfold bthA mbA
    have e7 : (cS d 6 (c.1 6 - 1)).1 7 = (cS c 6 (c.1 6 - 1)).1 7 := (show upd d.1 6 (c.1 6 - 1) 7 = upd c.1 6 (c.1 6 - 1) 7 from upd_e (fun _ => (R.1 7 (by decide)).symm))
    rw [← hw, ← R.1 6 (by decide), ← R.1 5 (by decide), ← R.1 9 (by decide), e7]
    exact r_S (r_S (r_S (r_S R (by decide)) (by decide)) (by decide)) (by decide)
  · obtain ⟨⟨b5, p5, q5⟩, -, ⟨b9, p9, q9⟩, ⟨s, p6, q6⟩, ⟨a, p7, q7⟩⟩ := J.2.1
    have hs : 1 ≤ s := by
      have : ¬ s = 0 := fun z => hsoap (by rw [q6, z]; decide)
      omega
    have ev : ∃ v, v ≤ 4 ∧ (if c.2.1 j 4 < 45 then (3 : Int32) else 4) = nI v := by
      by_cases h : c.2.1 j 4 < 45
      · exact ⟨3, by decide, if_pos h⟩
      · exact ⟨4, by decide, if_neg h⟩
    obtain ⟨v, hv, ev⟩ := ev
    have e7 : (cS c 6 (c.1 6 - 1)).1 7 = nI a := (show upd c.1 6 (c.1 6 - 1) 7 = c.1 7 from upd_o (by decide)).trans q7
    unfold bthA
    rw [ev, e7, q6, q5, q9, show nI s - 1 = nI (s - 1) from pk_sub (b := 1) hs, nI_a2, nI_1, nI_1]
    have k6 := J.2.1.k6 (K2 := K + 1) (a := s - 1) (by omega) (by omega)
    have J1 := j_S J (k := 6) (by decide) (by omega) k6
    have k7 := k6.k7 (a := a + v) (Nat.le_refl _) (by omega)
    have J2 := j_S J1 (k := 7) (by decide) (Nat.le_refl _) k7
    have k5 := k7.k5 (a := b5 + 1) (Nat.le_refl _) (by omega)
    have J3 := j_S J2 (k := 5) (by decide) (Nat.le_refl _) k5
    exact j_S J3 (by decide) (Nat.le_refl _) (k5.k9 (a := b9 + 1) (Nat.le_refl _) (by omega))
theorem sim_bathe {K : Nat} {c d : xCo} {u j : Nat} (R : R9 c d) (J : J9 K c) (hK : K < 16000000) (hu : u < n2 c) (hj : j < n1 c) (hw : c.2.1 j 4 = d.2.1 j 4) (hl : c.2.2.1 u 1 = nI j) (hl2 : c.2.1 j 1 = nI u) (hwait : ¬ c.2.2.1 u 4 ≤ 0) (hsoap : ¬ c.1 6 ≤ 0) : R9 (batheS c u j) (mBth d u j) ∧ J9 (K + 1) (batheS c u j) ∧ n2 (batheS c u j) = n2 c ∧ (batheS c u j).1 9 = c.1 9 + 1 := by
  have n8 := J.1.1.2
  have n5 := J.1.2.1.2
  obtain ⟨RA, JA⟩ := sim_bthA R J hK hw hsoap
  have hu1 : u < n2 (bthA c j) := hu
  have hj1 : j < n1 (bthA c j) := hj
  have t1 : (bthA c j).2 = c.2 := rfl
  have x9 : (bthA c j).1 9 = c.1 9 + 1 := rfl
  have x2 : n2 (bthA c j) = n2 c := rfl
  unfold batheS mBth
  generalize bthA c j = c1 at RA JA hu1 hj1 t1 x9 x2 ⊢
  generalize mbA d (if d.2.1 j 4 < 45 then 3 else 4) = d1 at RA ⊢
  have RB : R9 (bthB c1 u) (mbB d1 u) := by
    rw [mbB_e]
    unfold bthB
    have R1 := r_U (v := u) (k := 4) (x := c1.2.2.1 u 4 - 1) (r_Sh RA hu1)
    rw [← RA.2.2.1 u hu1 4 (by decide), ← R1.2.2.1 u hu1 3 (by decide)]
    exact r_U R1
  have JB : J9 (K + 1) (bthB c1 u) := by
    obtain ⟨m, m1, m2⟩ := (JA.2.2.2.1 u (by omega)).2
    have hm : 1 ≤ m := by
      have : ¬ m = 0 := fun z => hwait (by rw [← t1, m2, z]; decide)
      omega
    have J1 := j_Sh JA hu1
    unfold bthB
    rw [m2, show nI m - 1 = nI (m - 1) from pk_sub (b := 1) hm]
    have J2 := j_U J1 (k := 4) hu1 (by decide) ((J1.2.2.2.1 u (by omega)).k4 (m := m - 1) (by omega))
    exact j_U J2 hu1 (by decide) ((J2.2.2.2.1 u (by omega)).ko (by decide))
  have y1 : (bthB c1 u).2.2.1 u 1 = nI j := by
    rw [← hl, ← t1]
    refine (up2_k (by decide)).trans ((up2_k (by decide)).trans ?_)
    show (if u = u then shF (c1.2.2.1 u) 5 1 else _) = _
    rw [if_pos rfl]
    exact if_neg (by omega)
  have y2 : (bthB c1 u).2.1 = c.2.1 := by
    show c1.2.1 = c.2.1
    rw [t1]
  have y9 : (bthB c1 u).1 9 = c.1 9 + 1 := x9
  have y3 : n2 (bthB c1 u) = n2 c := x2
  have hj2 : j < n1 (bthB c1 u) := hj1
  generalize bthB c1 u = c2 at RB JB y1 y2 y9 y3 hj2 ⊢
  generalize mbB d1 u = d2 at RB ⊢
  obtain ⟨k, k1, k2⟩ := (J.2.2.1 j (by omega)).2.2.2.2.2.1
  have RC : R9 (bthC c2 j) (bthC d2 j) := by
    unfold bthC
    have R1 := r_T (j := j) (k := 5) (x := 1) RB (by decide)
    rw [← (R1.2.1 j hj2).1 6 (by decide) (by decide)]
    exact r_T R1 (by decide)
  have e6 : (cT c2 j 5 1).2.1 j 6 = nI k := (up2_k (by decide)).trans (by rw [y2]; exact k2)
  have z6 : (bthC c2 j).2.1 j 6 = nI (k + 1) := by
    unfold bthC
    rw [e6, nI_1]; exact up2_s
  have JC : J9 (K + 1) (bthC c2 j) := by
    unfold bthC
    rw [e6, nI_1]
    have J1 := j_T JB (k := 5) (x := 1) hj2 (by decide) ((JB.2.2.1 j (by omega)).k5 (Or.inr rfl) (fun q => by
      rw [y2, hl2] at q
      exact absurd q (nI_m1 (by omega))))
    exact j_T J1 hj2 (by decide) ((J1.2.2.1 j (by omega)).k6 (by omega))
  have z1 : (bthC c2 j).2.2.1 u 1 = nI j := y1
  have z9 : (bthC c2 j).1 9 = c.1 9 + 1 := y9
  have z3 : n2 (bthC c2 j) = n2 c := y3
  have hj3 : j < n1 (bthC c2 j) := hj2
  generalize bthC c2 j = c3 at RC JC z1 z6 z9 z3 hj3 ⊢
  generalize bthC d2 j = d3 at RC ⊢
  unfold bthD mbD
  rw [← (RC.2.1 j hj3).1 6 (by decide) (by decide), ← (RC.2.1 j hj3).1 2 (by decide) (by decide), z1, z6]
  by_cases h : nI (k + 1) - nI (k + 1) / 4 * 4 = 0
  · rw [if_pos h, if_pos h]
    refine ⟨r_T RC (by decide), ?_, z3, z9⟩
    obtain ⟨b, hb, eb⟩ := (JC.2.2.1 j (by omega)).2.1
    rw [nI_a2, show nI (j + (k + 1)) - nI (j + (k + 1)) / 8 * 8 = nI ((j + (k + 1)) % 8) from pk_rem (d := 8) (by omega) (by decide) (by decide), eb]
    obtain ⟨e, he, ee⟩ := bit_or b hb ((j + (k + 1)) % 8) (by omega)
    rw [ee]
    exact j_T JC hj3 (by decide) ((JC.2.2.1 j (by omega)).k2 he)
  · rw [if_neg h, if_neg h]
    exact ⟨RC, JC, z3, z9⟩
theorem sim_h2 {K : Nat} {c d : xCo} {i j l2 : Nat} (R : R9 c d) (J : J9 K c) (hK : K < 16000000) (hi : i < n2 c) (hj : j < n1 c) (e : c.2.2.1 i 1 = nI j) (e2 : c.2.1 j 1 = nI i) (a3 : c.2.1 j 3 = nI l2) (hl2 : l2 ≤ 300) : ∃ q, q ≤ 1 ∧ (mH2 d i j (nI l2) (100 * c.2.1 j 0) (d.2.1 j 4)).1 = nI q ∧ R9 (hour2S c i j) (mH2 d i j (nI l2) (100 * c.2.1 j 0) (d.2.1 j 4)).2 ∧ J9 (K + 1) (hour2S c i j) ∧ n2 (hour2S c i j) = n2 c ∧ (hour2S c i j).1 9 = c.1 9 + nI q := by
  have n8 := J.1.1.2
  have n5 := J.1.2.1.2
  have h0 : c.1 9 = c.1 9 + nI 0 := (Int32.add_zero _).symm
  have hm1 : ¬ nI i = -1 := nI_m1 (by omega)
  obtain ⟨z, hz, ez⟩ := (J.2.2.1 j (by omega)).1
  have hz0 : z ≠ 0 := fun q => J.2.2.2.2.2.2.2 j hj (by rw [ez, q]; rfl)
  obtain ⟨w, w1, w2, ew⟩ := (J.2.2.1 j (by omega)).2.2.2.1
  have hw0 : l2 ≠ 0 → c.2.1 j 4 = d.2.1 j 4 := fun q => (R.2.1 j hj).2 (by rw [a3]; exact nI_ne0 (by omega) (by omega))
  unfold hour2S mH2
  rw [← (R.2.1 j hj).1 5 (by decide) (by decide), ← R.2.2.1 i hi 0 (by decide), ← R.2.2.1 i hi 4 (by decide), ← R.1 6 (by decide), a3]
  rcases (J.2.2.1 j (by omega)).2.2.2.2.1 with x5 | x5
  · rw [x5, if_pos (show bb 0 = 0 by decide), if_neg (show ¬ (0 : Int32) = 1 by decide)]
    by_cases hal : 100 * c.2.1 j 0 ≤ nI l2
    · have hl0 : l2 ≠ 0 := by
        rw [ez, show (100 : Int32) * nI z = nI (100 * z) from pk_mul 100 z] at hal
        have := (nI_leI (by omega) (by omega)).mp hal
        omega
      have hw := hw0 hl0
      rw [if_pos hal, if_pos hal, ← hw]
      obtain ⟨t1, t2, t3, t4⟩ := sim_tail R J hi hj hw
      have tl : ∃ q, q ≤ 1 ∧ ((0 : Int32), mTl d i j (c.2.1 j 4)).1 = nI q ∧ R9 (tailS c i j) ((0 : Int32), mTl d i j (c.2.1 j 4)).2 ∧ J9 (K + 1) (tailS c i j) ∧ n2 (tailS c i j) = n2 c ∧ (tailS c i j).1 9 = c.1 9 + nI q := ⟨0, by decide, rfl, t1, t2.mono (by omega), t3, t4.trans h0⟩
      by_cases h38 : c.2.1 j 4 < 38
      · rw [if_pos h38, if_pos h38]; exact tl
      · rw [if_neg h38, if_neg h38]
        by_cases hwt : c.2.2.1 i 4 ≤ 0
        · rw [if_pos hwt, if_pos hwt]; exact tl
        · rw [if_neg hwt, if_neg hwt]
          by_cases hs : c.1 6 ≤ 0
          · rw [if_pos hs, if_pos hs]; exact tl
          · rw [if_neg hs, if_neg hs]
            obtain ⟨u1, u2, u3, u4⟩ := sim_bathe R J hK hi hj hw e e2 hwt hs
            exact ⟨1, by decide, rfl, u1, u2, u3, u4⟩
    · rw [if_neg hal, if_neg hal]
      have X : ∃ t, 10 ≤ t ∧ t ≤ 60 ∧ (if nI l2 = 0 then (10 : Int32) else mx 10 (c.2.1 j 4 - 5)) = nI t ∧ (if nI l2 = 0 then (10 : Int32) else mx 10 (d.2.1 j 4 - 5)) = nI t := by
        by_cases q : nI l2 = 0
        · exact ⟨10, by decide, by decide, if_pos q, if_pos q⟩
        · have hl0 : l2 ≠ 0 := fun y => q (by rw [y]; rfl)
          have ex : mx 10 (c.2.1 j 4 - 5) = nI (if 10 < w - 5 then w - 5 else 10) := by rw [ew]; exact mx10 (b := 5) (by omega) (by omega)
          refine ⟨_, ?_, ?_, (if_neg q).trans ex, ?_⟩
          · split <;> omega
          · split <;> omega
          · rw [if_neg q, ← hw0 hl0]; exact ex
      obtain ⟨t, t1, t2, t3, t4⟩ := X
      rw [t3, t4, ez, show (100 : Int32) * nI z = nI (100 * z) from pk_mul 100 z]
      have J1 : J9 K (cT c j 4 (nI t)) := j_T J hj (by decide) ((J.2.2.1 j (by omega)).k4 t1 t2)
      have J2 : J9 K (cT (cT c j 4 (nI t)) j 3 (nI (100 * z))) := j_T J1 hj (by decide) ((J1.2.2.1 j (by omega)).k3 (by omega) (fun q => absurd (e2.symm.trans ((up2_k (by decide)).symm.trans q)) hm1))
      exact ⟨0, by decide, rfl, r_T3 (r_T R (by decide)) (fun _ => up2_s.trans up2_s.symm), J2.mono (by omega), rfl, h0⟩
  · rw [x5, if_neg (show ¬ bb 1 = 0 by decide), if_pos (show (1 : Int32) = 1 from rfl)]
    obtain ⟨s, hs, es⟩ := (J.2.2.2.1 i (by omega)).1
    rw [es, show (10 : Int32) * nI s = nI (10 * s) from pk_mul 10 s, show (20 : Int32) + nI (10 * s) = nI (20 + 10 * s) from nI_a2 20 _, show nI l2 - 20 - nI (10 * s) = nI l2 - nI (20 + 10 * s) by rw [← nI_a2 20 (10 * s)]; exact Int32.sub_sub _ _ _, mx0 (by omega) (by omega)]
    have hw3 : nI (l2 - (20 + 10 * s)) ≠ 0 → c.2.1 j 4 = d.2.1 j 4 := fun q => hw0 (fun y => q (by rw [y]; simp; rfl))
    have J1 : J9 K (cT c j 3 (nI (l2 - (20 + 10 * s)))) := j_T J hj (by decide) ((J.2.2.1 j (by omega)).k3 (by omega) (fun q => absurd (e2.symm.trans q) hm1))
    by_cases q : nI (l2 - (20 + 10 * s)) = 0
    · rw [if_pos q, if_pos q]
      have J2 : J9 K (cT (cT c j 3 (nI (l2 - (20 + 10 * s)))) j 5 0) := j_T J1 hj (by decide) ((J1.2.2.1 j (by omega)).k5 (Or.inl rfl) (fun _ => rfl))
      exact ⟨0, by decide, rfl, r_T (r_T3 R hw3) (by decide), J2.mono (by omega), rfl, h0⟩
    · rw [if_neg q, if_neg q]
      exact ⟨0, by decide, rfl, r_Td (r_T3 R hw3) (by decide) ((up2_k (by decide)).trans x5), J1.mono (by omega), rfl, h0⟩
theorem sim_hr {K : Nat} {c d : xCo} {i : Nat} (R : R9 c d) (J : J9 K c) (hK : K < 16000000) (hi : i < n2 c) : ∃ q, q ≤ 1 ∧ (if d.2.2.1 i 1 < 0 then ((0 : Int32), d) else mHr d i (d.2.2.1 i 1).toNatClampNeg).1 = nI q ∧ R9 (hourInS c i) (if d.2.2.1 i 1 < 0 then ((0 : Int32), d) else mHr d i (d.2.2.1 i 1).toNatClampNeg).2 ∧ J9 (K + 1) (hourInS c i) ∧ n2 (hourInS c i) = n2 c ∧ (hourInS c i).1 9 = c.1 9 + nI q := by
  have n8 := J.1.1.2
  have n5 := J.1.2.1.2
  rw [← R.2.2.1 i hi 1 (by decide)]
  rcases J.2.2.2.2.2.1.2.1 i (by omega) with e | ⟨j, hj, e, e2⟩
  · have hc : hourInS c i = c := by
      unfold hourInS
      rw [e, if_neg (fun q : okT c (-1) => q.1 (by decide))]
    rw [e, if_pos m1, hc]
    exact ⟨0, by decide, rfl, R, J.mono (by omega), rfl, (Int32.add_zero _).symm⟩
  · obtain ⟨b, hb, eb⟩ := (J.2.2.1 j (by omega)).2.1
    obtain ⟨l, hl, el⟩ := (J.2.2.1 j (by omega)).2.2.1
    obtain ⟨bt, v, hv, ev⟩ := bc_tm b hb
    have hm1 : ¬ nI i = -1 := nI_m1 (by omega)
    have hc : hourInS c i = hour2S (cT c j 3 (nI (l - 5 * v))) i j := by
      unfold hourInS
      rw [e, if_pos (okT_in J hj), nI_cl (by omega), el, eb, ev, show (5 : Int32) * nI v = nI (5 * v) from pk_mul 5 v, mx0 (by omega) (by omega)]
    have hg : gtL d j = nI (l - 5 * v) := by
      unfold gtL
      rw [← (R.2.1 j hj).1 3 (by decide) (by decide), ← (R.2.1 j hj).1 2 (by decide) (by decide), el, eb, ← bt, ev, show (5 : Int32) * nI v = nI (5 * v) from pk_mul 5 v, mx0 (by omega) (by omega)]
    have R1 : R9 (cT c j 3 (nI (l - 5 * v))) (cT d j 3 (nI (l - 5 * v))) := r_T3 R (fun h => (R.2.1 j hj).2 (by
      rw [el]
      refine nI_ne0 ?_ (by omega)
      have : ¬ l = 0 := fun y => h (by rw [y]; simp; rfl)
      omega))
    have J1 : J9 K (cT c j 3 (nI (l - 5 * v))) := j_T J hj (by decide) ((J.2.2.1 j (by omega)).k3 (by omega) (fun q => absurd (e2.symm.trans q) hm1))
    have x0 : (cT c j 3 (nI (l - 5 * v))).2.1 j 0 = d.2.1 j 0 := (up2_k (by decide)).trans ((R.2.1 j hj).1 0 (by decide) (by decide))
    have x4 : (cT d j 3 (nI (l - 5 * v))).2.1 j 4 = d.2.1 j 4 := up2_k (by decide)
    rw [e, if_neg (nI_pos (by omega)), nI_cl (by omega), hc]
    unfold mHr
    rw [hg]
    have z := sim_h2 R1 J1 hK hi hj e ((up2_k (by decide)).trans e2) up2_s (by omega)
    rw [x0, x4] at z
    exact z
theorem sim_hrs : ∀ (n : Nat) (K i : Nat) (c d : xCo) (a : Int32), R9 c d → J9 K c → K + n < 16000000 → i + n = n2 c → ∃ q, q ≤ n ∧ (mhF n i a d).1 = a + nI q ∧ R9 (hrsT n i c) (mhF n i a d).2 ∧ J9 (K + n) (hrsT n i c) ∧ n2 (hrsT n i c) = n2 c ∧ (hrsT n i c).1 9 = c.1 9 + nI q := by
  intro n
  induction n with
  | zero => intro K i c d a R J hK hi; exact ⟨0, Nat.le_refl _, (Int32.add_zero _).symm, R, J, rfl, (Int32.add_zero _).symm⟩
  | succ n ih =>
    intro K i c d a R J hK hi
    obtain ⟨q, q1, q2, q3, q4, q5, q6⟩ := sim_hr (i := i) R J (by omega) (by omega)
    rw [hrsT, mhF]
    by_cases h : d.2.2.1 i 1 < 0
    · rw [if_pos h] at q2 q3
      rw [if_pos h]
      obtain ⟨r, r1, r2, r3, r4, r5, r6⟩ := ih (K + 1) (i + 1) _ _ (a + 0) q3 q4 (by omega) (by rw [q5]; omega)
      have hq : q = 0 := nI_inj (by omega) (by decide) (q2.symm.trans rfl)
      subst hq
      refine ⟨r, by omega, by rw [r2, Int32.add_zero], r3, r4.mono (by omega), r5.trans q5, ?_⟩
      rw [r6, q6, Int32.add_assoc, nI_a2, Nat.zero_add]
    · rw [if_neg h] at q2 q3
      rw [if_neg h]
      obtain ⟨r, r1, r2, r3, r4, r5, r6⟩ := ih (K + 1) (i + 1) _ _ (a + (mHr d i (d.2.2.1 i 1).toNatClampNeg).1) q3 q4 (by omega) (by rw [q5]; omega)
      refine ⟨q + r, by omega, ?_, r3, r4.mono (by omega), r5.trans q5, ?_⟩
      · rw [r2, q2, Int32.add_assoc, nI_a2]
      · rw [r6, q6, Int32.add_assoc, nI_a2]
theorem sim_hour {K : Nat} {c d : xCo} (R : R9 c d) (J : J9 K c) (hK : K + 5 < 16000000) : ∃ q, q ≤ 5 ∧ (mHour d).1 = nI q ∧ R9 (hourS c) (mHour d).2 ∧ J9 (K + 5) (hourS c) ∧ n2 (hourS c) = n2 c ∧ (hourS c).1 9 = c.1 9 + nI q := by
  have n5 := J.1.2.1.2
  unfold hourS mHour
  rw [← R.1 2 (by decide), ← R.1 0 (by decide)]
  have R0 := r_S (k := 0) (x := c.1 0 + 1) R (by decide)
  have J0 := j_S (k := 0) (x := c.1 0 + 1) J (by decide) (Nat.le_refl _) (J.2.1.ko (Nat.le_refl _) (by decide))
  have e2 := (n_cS (c := c) (k := 0) (x := c.1 0 + 1) (by decide)).2.1
  obtain ⟨q, q1, q2, q3, q4, q5, q6⟩ := sim_hrs (n2 c) K 0 _ _ 0 R0 J0 (by omega) (by rw [e2]; omega)
  exact ⟨q, by omega, q2.trans (Int32.zero_add _), q3, q4.mono (by omega), q5.trans e2, q6⟩
theorem sim_hours : ∀ (n : Nat) (K : Nat) (c d : xCo) (a : Int32), R9 c d → J9 K c → K + 5 * n < 16000000 → ∃ q, q ≤ 5 * n ∧ (mpF n a d).1 = a + nI q ∧ R9 (hoursS n c) (mpF n a d).2 ∧ J9 (K + 5 * n) (hoursS n c) ∧ (hoursS n c).1 9 = c.1 9 + nI q := by
  intro n
  induction n with
  | zero => intro K c d a R J hK; exact ⟨0, Nat.le_refl _, (Int32.add_zero _).symm, R, J, (Int32.add_zero _).symm⟩
  | succ n ih =>
    intro K c d a R J hK
    obtain ⟨q, q1, q2, q3, q4, q5, q6⟩ := sim_hour R J (by omega)
    rw [hoursS, mpF]
    obtain ⟨r, r1, r2, r3, r4, r5⟩ := ih (K + 5) _ _ (a + (mHour d).1) q3 q4 (by omega)
    refine ⟨q + r, by omega, by rw [r2, q2, Int32.add_assoc, nI_a2], r3, r4.mono (by omega), ?_⟩
    rw [r5, q6, Int32.add_assoc, nI_a2]
theorem sim_pass {K : Nat} {c d : xCo} {x : Int32} (R : R9 c d) (J : J9 K c) (hK : K + 240 < 16000000) : OK9 K c d (passS c x) (mPass d x) := by
  unfold passS mPass
  by_cases h2 : x < 1
  · rw [if_pos h2, if_pos (Or.inl h2)]; exact OK9.m3
  · rw [if_neg h2]
    by_cases h3 : x ≤ 48
    · have hn9 : ¬ (x < 1 ∨ 48 < x) := fun q => q.elim h2 (fun z => Int32.not_le.mpr z h3)
      rw [if_pos h3, if_neg hn9]
      obtain ⟨y, hy1, hy2, rfl⟩ := rng (N := 48) (by decide) h2 h3
      rw [nI_cl (by omega)]
      obtain ⟨r, r1, r2, r3, r4, r5⟩ := sim_hours y K c d 0 R J (by omega)
      have ea : (hoursS y c).1 9 - c.1 9 = nI r := by rw [r5, Int32.add_comm, Int32.add_sub_cancel]
      exact Or.inl ⟨rfl, ea.trans (r2.trans (Int32.zero_add _)).symm, ⟨r, by omega, ea⟩, r3, r4.mono (by omega)⟩
    · have hn9 : x < 1 ∨ 48 < x := Or.inr (Int32.not_le.mp h3)
      rw [if_neg h3, if_pos hn9]; exact OK9.m3
theorem J9.inC {K : Nat} {c : xCo} (J : J9 K c) : inC c :=
  ⟨⟨n1 c, J.1.1.2, J.1.1.1⟩, ⟨n2 c, J.1.2.1.2, J.1.2.1.1⟩, ⟨n3 c, J.1.2.2.2, J.1.2.2.1⟩, fun u hu => (J.2.2.2.1 u hu).2⟩
/-- a command, on both sides -/
theorem sim_do {K m : Nat} {c d : xCo} {a b : Int32} (R : R9 c d) (J : J9 K c) (hK : K + 240 < 16000000) : OK9 K c d (ocS m a b c) (mDo d m a b) := by
  unfold ocS mDo
  by_cases h0 : m = 0
  · rw [if_pos h0, if_pos h0]; exact sim_out R J (by omega)
  rw [if_neg h0, if_neg h0]
  by_cases h1 : m = 1
  · rw [if_pos h1, if_pos h1]; exact sim_back R J (by omega)
  rw [if_neg h1, if_neg h1]
  by_cases h2 : m = 2
  · rw [if_pos h2, if_pos h2]; exact sim_heat R J (by omega)
  rw [if_neg h2, if_neg h2]
  by_cases h3 : m = 3
  · rw [if_pos h3, if_pos h3]; exact sim_cold R J (by omega)
  rw [if_neg h3, if_neg h3]
  by_cases h4 : m = 4
  · rw [if_pos h4, if_pos h4]; exact sim_join R J (by omega)
  rw [if_neg h4, if_neg h4]
  by_cases h5 : m = 5
  · rw [if_pos h5, if_pos h5]; exact sim_mend R J (by omega)
  rw [if_neg h5, if_neg h5]
  by_cases h6 : m = 6
  · rw [if_pos h6, if_pos h6]; exact sim_wash R J (by omega)
  rw [if_neg h6, if_neg h6]
  by_cases h7 : m = 7
  · rw [if_pos h7, if_pos h7]; exact sim_soap R J (by omega)
  rw [if_neg h7, if_neg h7]
  exact sim_pass R J hK
