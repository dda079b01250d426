/-! ===== 64.pairs2: the calls that ask, of both ===== -/
section PAIRS2
variable {E : xE} {x m K : Nat} {h : xHi} {d : xCo} {r : mRs} {o : Nat → Int32} {t : mTx}
theorem pr_ask {M1 M2 : xM} {a1 a2 : List Value} {Xs : List String} {k : Nat} {v v2 : Int32} (I : IV K h d r o t) (hk : k ≤ Xs.length) (hv : k = 0 → v2 = v)
    (c1 : ∀ (w : xW) (Po : xPo), HI E w x h → (∀ u, HI E u x h → Fr w u x h → Po (rs Xs k v) u) → Ct M1 E (.ref x :: a1) w Po)
    (c2 : ∀ (w2 : xW) (Po : xPo), Po (.inl (some (.int v2))) (md E w2 m d r (upd o 2 (nI k)) t) → Ct M2 E (.ref m :: a2) (md E w2 m d r o t) Po) : PR M1 M2 E x m K h d r o t a1 a2 Xs := by
  intro w H
  refine ⟨k, v, v2, fun g => g = h, fun d2 r2 o2 t2 => d2 = d ∧ r2 = r ∧ o2 = upd o 2 (nI k) ∧ t2 = t, hk, hv, fun Po hp => c1 w Po H (fun u hu fu => hp u h rfl (Or.inl rfl) hu fu), fun w2 Po hp => c2 w2 Po (hp _ _ _ _ ⟨rfl, rfl, rfl, rfl⟩), ?_⟩
  rintro h2 d2 r2 o2 t2 rfl ⟨rfl, rfl, rfl, rfl⟩
  exact ⟨(I.oo o_2).mono (by omega), upd_s⟩
theorem kr_cp {c d p q : xCo} (h : KR c d) : KR (cpS c p) (cpS d q) := ⟨h.1, h.2⟩
theorem pr_tubOf {z y : Int32} (I : IV K h d r o t) : PR M_X9_tubOf M_X10_tubOf E x m K h d r o t [.int z, .int y] [.int z, .int y] ["java/lang/IndexOutOfBoundsException", "java/lang/IllegalArgumentException"] := by
  obtain ⟨⟨⟨R, J, U⟩, -⟩, -⟩ := id I
  have hc := (inP_of R J U).1
  by_cases h1 : okT (h.1 0) z
  · have h1' := (okT_e R).mpr h1
    by_cases h2 : y < 0 ∨ 6 < y
    · refine pr_ask (k := 2) (v := 0) (v2 := 0) I (by decide) (fun _ => rfl) (fun w Po H hp => ct_X9_tubOf H ?_) (fun w2 Po hp => ct_X10_tubOf hc ?_)
      · rw [if_pos h1]
        by_cases h3 : y < 0
        · rw [if_pos h3]; exact hp
        · rw [if_neg h3, if_neg (Int32.not_le.mpr (h2.resolve_left h3))]; exact hp
      · rw [if_pos h1', if_pos h2]; exact hp
    · obtain ⟨q, hq, rfl⟩ := k_of (N := 6) (by decide) (fun z => h2 (Or.inl z)) (fun z => h2 (Or.inr z))
      obtain ⟨j, hj, hj8, rfl⟩ := okT_n J h1
      have e := tub_e R J hj (show q < 7 by omega)
      refine pr_ask (k := 0) (v := tldS ((h.1 0).2.1 j) (nI q)) (v2 := if (nI q) = 4 then (if d.2.1 j 3 = 0 then 0 else d.2.1 j 4) else d.2.1 j q) I (by decide) (fun _ => e.symm) (fun w Po H hp => ct_X9_tubOf H ?_) (fun w2 Po hp => ct_X10_tubOf hc ?_)
      · rw [if_pos h1, if_neg (nI_pos (by omega)), if_pos (show nI q ≤ 6 from (nI_leI (b := 6) (by omega) (by decide)).mpr hq), nI_cl (by omega)]
        exact hp w H Fr.id
      · rw [if_pos h1', if_neg h2, nI_cl (by omega), nI_cl (by omega)]
        by_cases q4 : nI q = 4
        · rw [if_pos q4] at hp ⊢
          have e4 : q = 4 := nI_inj (b := 4) (by omega) (by decide) q4
          subst e4
          by_cases q3 : d.2.1 j 3 = 0
          · rw [if_pos q3] at hp ⊢; exact hp
          · rw [if_neg q3] at hp ⊢; exact hp
        · rw [if_neg q4] at hp ⊢; exact hp
  · refine pr_ask (k := 1) (v := 0) (v2 := 0) I (by decide) (fun _ => rfl) (fun w Po H hp => ct_X9_tubOf H ?_) (fun w2 Po hp => ct_X10_tubOf hc ?_)
    · rw [if_neg h1]; exact hp
    · rw [if_neg (fun q => h1 ((okT_e R).mp q))]; exact hp
theorem pr_tentOf {z y : Int32} (I : IV K h d r o t) : PR M_X9_tentOf M_X10_tentOf E x m K h d r o t [.int z, .int y] [.int z, .int y] ["java/lang/IndexOutOfBoundsException", "java/lang/IllegalArgumentException"] := by
  obtain ⟨⟨⟨R, J, U⟩, -⟩, -⟩ := id I
  have hc := (inP_of R J U).1
  by_cases h1 : okU (h.1 0) z
  · have h1' := (okU_e R).mpr h1
    by_cases h2 : y < 0 ∨ 4 < y
    · refine pr_ask (k := 2) (v := 0) (v2 := 0) I (by decide) (fun _ => rfl) (fun w Po H hp => ct_X9_tentOf H ?_) (fun w2 Po hp => ct_X10_tentOf hc ?_)
      · rw [if_pos h1]
        by_cases h3 : y < 0
        · rw [if_pos h3]; exact hp
        · rw [if_neg h3, if_neg (Int32.not_le.mpr (h2.resolve_left h3))]; exact hp
      · rw [if_pos h1', if_pos h2]; exact hp
    · obtain ⟨q, hq, rfl⟩ := k_of (N := 4) (by decide) (fun z => h2 (Or.inl z)) (fun z => h2 (Or.inr z))
      obtain ⟨j, hj, hj8, rfl⟩ := okU_n J h1
      have e := tnt_e R hj (show q < 5 by omega)
      refine pr_ask (k := 0) (v := tltS ((h.1 0).2.2.1 j) (nI q)) (v2 := if (nI q) = 3 then d.2.2.1 j 4 else if (nI q) = 4 then d.2.2.1 j 3 else d.2.2.1 j q) I (by decide) (fun _ => e.symm) (fun w Po H hp => ct_X9_tentOf H ?_) (fun w2 Po hp => ct_X10_tentOf hc ?_)
      · rw [if_pos h1, if_neg (nI_pos (by omega)), if_pos (show nI q ≤ 4 from (nI_leI (b := 4) (by omega) (by decide)).mpr hq), nI_cl (by omega)]
        exact hp w H Fr.id
      · rw [if_pos h1', if_neg h2, nI_cl (by omega), nI_cl (by omega)]
        by_cases q3 : nI q = 3
        · rw [if_pos q3] at hp ⊢; exact hp
        · rw [if_neg q3] at hp ⊢
          by_cases q4 : nI q = 4
          · rw [if_pos q4] at hp ⊢; exact hp
          · rw [if_neg q4] at hp ⊢; exact hp
  · refine pr_ask (k := 1) (v := 0) (v2 := 0) I (by decide) (fun _ => rfl) (fun w Po H hp => ct_X9_tentOf H ?_) (fun w2 Po hp => ct_X10_tentOf hc ?_)
    · rw [if_neg h1]; exact hp
    · rw [if_neg (fun q => h1 ((okU_e R).mp q))]; exact hp
theorem pr_torn {z y : Int32} (I : IV K h d r o t) : PR M_X9_torn M_X10_torn E x m K h d r o t [.int z, .int y] [.int z, .int y] ["java/lang/IndexOutOfBoundsException", "java/util/NoSuchElementException"] := by
  obtain ⟨⟨⟨R, J, U⟩, -⟩, -⟩ := id I
  have hc := (inP_of R J U).1
  by_cases h1 : okT (h.1 0) z
  · have h1' := (okT_e R).mpr h1
    by_cases h2 : y < 0 ∨ 8 ≤ y
    · refine pr_ask (k := 1) (v := 0) (v2 := 0) I (by decide) (fun _ => rfl) (fun w Po H hp => ct_X9_torn H ?_) (fun w2 Po hp => ct_X10_torn hc ?_)
      · rw [if_pos h1, if_pos h2]; exact hp
      · rw [if_pos h1', if_pos h2]; exact hp
    · obtain ⟨j, hj, hj8, rfl⟩ := okT_n J h1
      have e : (h.1 0).2.1 j 2 = d.2.1 j 2 := (R.2.1 j hj).1 2 (by decide) (by decide)
      by_cases h3 : 0 ≤ tfS (d.2.1 j 2) (8 - y.toNatClampNeg) y.toNatClampNeg
      · refine pr_ask (k := 0) (v := tfS (d.2.1 j 2) (8 - y.toNatClampNeg) y.toNatClampNeg) (v2 := tfS (d.2.1 j 2) (8 - y.toNatClampNeg) y.toNatClampNeg) I (by decide) (fun _ => rfl) (fun w Po H hp => ct_X9_torn H ?_) (fun w2 Po hp => ct_X10_torn hc ?_)
        · rw [if_pos h1, if_neg h2, nI_cl (by omega), e, if_pos h3]; exact hp w H Fr.id
        · rw [if_pos h1', if_neg h2, nI_cl (by omega), if_pos h3]; exact hp
      · refine pr_ask (k := 2) (v := 0) (v2 := 0) I (by decide) (fun _ => rfl) (fun w Po H hp => ct_X9_torn H ?_) (fun w2 Po hp => ct_X10_torn hc ?_)
        · rw [if_pos h1, if_neg h2, nI_cl (by omega), e, if_neg h3]; exact hp
        · rw [if_pos h1', if_neg h2, nI_cl (by omega), if_neg h3]; exact hp
  · refine pr_ask (k := 1) (v := 0) (v2 := 0) I (by decide) (fun _ => rfl) (fun w Po H hp => ct_X9_torn H ?_) (fun w2 Po hp => ct_X10_torn hc ?_)
    · rw [if_neg h1]; exact hp
    · rw [if_neg (fun q => h1 ((okT_e R).mp q))]; exact hp
theorem pr_waiting {z y : Int32} (I : IV K h d r o t) : PR M_X9_waiting M_X10_waiting E x m K h d r o t [.int z, .int y] [.int z, .int y] ["java/lang/IndexOutOfBoundsException", "java/util/NoSuchElementException"] := by
  obtain ⟨⟨⟨R, J, U⟩, -⟩, -⟩ := id I
  have hc := (inP_of R J U).1
  by_cases h1 : okU (h.1 0) z
  · have h1' := (okU_e R).mpr h1
    obtain ⟨j, hj, hj8, rfl⟩ := okU_n J h1
    have e := gst_e (p := y) R J U hj
    by_cases h3 : 0 ≤ gAtS ((h.1 0).2.2.1 j) y
    · have h4 : ¬ (y < 0 ∨ d.2.2.1 j 4 - 1 < y) := fun q => by rw [if_pos h3, if_pos q] at e; cases e
      rw [if_pos h3, if_neg h4] at e
      refine pr_ask (k := 0) (v := gAtS ((h.1 0).2.2.1 j) y) (v2 := d.2.2.1 j (5 + y.toNatClampNeg)) I (by decide) (fun _ => (Option.some.inj e).symm) (fun w Po H hp => ct_X9_waiting H ?_) (fun w2 Po hp => ct_X10_waiting hc ?_)
      · rw [if_pos h1, nI_cl (by omega), if_pos h3]; exact hp w H Fr.id
      · rw [if_pos h1', nI_cl (by omega), if_neg h4]; exact hp
    · have h4 : y < 0 ∨ d.2.2.1 j 4 - 1 < y := by
        by_cases q : y < 0 ∨ d.2.2.1 j 4 - 1 < y
        · exact q
        · rw [if_neg h3, if_neg q] at e; cases e
      refine pr_ask (k := 2) (v := 0) (v2 := 0) I (by decide) (fun _ => rfl) (fun w Po H hp => ct_X9_waiting H ?_) (fun w2 Po hp => ct_X10_waiting hc ?_)
      · rw [if_pos h1, nI_cl (by omega), if_neg h3]; exact hp
      · rw [if_pos h1', nI_cl (by omega), if_pos h4]; exact hp
  · refine pr_ask (k := 1) (v := 0) (v2 := 0) I (by decide) (fun _ => rfl) (fun w Po H hp => ct_X9_waiting H ?_) (fun w2 Po hp => ct_X10_waiting hc ?_)
    · rw [if_neg h1]; exact hp
    · rw [if_neg (fun q => h1 ((okU_e R).mp q))]; exact hp
theorem pr_heaterOf {z y : Int32} (I : IV K h d r o t) : PR M_X9_heaterOf M_X10_heaterOf E x m K h d r o t [.int z, .int y] [.int z, .int y] ["java/lang/IndexOutOfBoundsException"] := by
  obtain ⟨⟨⟨R, J, U⟩, -⟩, -⟩ := id I
  have hc := (inP_of R J U).1
  by_cases h1 : okG (h.1 0) z
  · have h1' := (okG_e R).mpr h1
    obtain ⟨j, hj, hj8, rfl⟩ := okG_n J h1
    by_cases h2 : y = 0
    · refine pr_ask (k := 0) (v := (h.1 0).2.2.2 j 1) (v2 := d.2.2.2 j 1) I (by decide) (fun _ => (R.2.2.2 j hj 1 (by decide)).symm) (fun w Po H hp => ct_X9_heaterOf H ?_) (fun w2 Po hp => ct_X10_heaterOf hc ?_)
      · rw [if_pos h1, nI_cl (by omega), if_pos h2]; exact hp w H Fr.id
      · rw [if_pos h1', nI_cl (by omega), if_pos h2]; exact hp
    · refine pr_ask (k := 0) (v := (h.1 0).2.2.2 j 0) (v2 := d.2.2.2 j 0) I (by decide) (fun _ => (R.2.2.2 j hj 0 (by decide)).symm) (fun w Po H hp => ct_X9_heaterOf H ?_) (fun w2 Po hp => ct_X10_heaterOf hc ?_)
      · rw [if_pos h1, nI_cl (by omega), if_neg h2]; exact hp w H Fr.id
      · rw [if_pos h1', nI_cl (by omega), if_neg h2]; exact hp
  · refine pr_ask (k := 1) (v := 0) (v2 := 0) I (by decide) (fun _ => rfl) (fun w Po H hp => ct_X9_heaterOf H ?_) (fun w2 Po hp => ct_X10_heaterOf hc ?_)
    · rw [if_neg h1]; exact hp
    · rw [if_neg (fun q => h1 ((okG_e R).mp q))]; exact hp
theorem pr_bestTub (I : IV K h d r o t) (hK : K + 15000 < 16000000) : PR M_X9_bestTub M_X10_bestTub E x m K h d r o t [] [] ["java/util/NoSuchElementException"] := by
  obtain ⟨⟨⟨R, J, U⟩, -⟩, -⟩ := id I
  have a8 := J.1.1
  have ed : d.1 1 = nI (n1 (h.1 0)) := (R.1 1 (by decide)).symm.trans a8.1
  have e := best_e R J (by omega) (n1 (h.1 0)) (Nat.le_refl _)
  by_cases h3 : 0 ≤ bsI (bbF d (n1 (h.1 0)))
  · refine pr_ask (k := 0) (v := bsI (bbF d (n1 (h.1 0)))) (v2 := bsI (bbF d (n1 (h.1 0)))) I (by decide) (fun _ => rfl) (fun w Po H hp => ct_X9_bestTub H a8.2 a8.1 ?_) (fun w2 Po hp => ct_X10_bestTub a8.2 ed ?_)
    · rw [e, if_pos h3]; exact hp w H Fr.id
    · rw [if_pos h3]; exact hp
  · refine pr_ask (k := 1) (v := 0) (v2 := 0) I (by decide) (fun _ => rfl) (fun w Po H hp => ct_X9_bestTub H a8.2 a8.1 ?_) (fun w2 Po hp => ct_X10_bestTub a8.2 ed ?_)
    · rw [e, if_neg h3]; exact hp
    · rw [if_neg h3]; exact hp
theorem pr_number {y : Int32} (I : IV K h d r o t) : PR M_X9_number M_X10_number E x m K h d r o t [.int y] [.int y] ["java/lang/IllegalArgumentException"] := by
  obtain ⟨⟨⟨R, J, U⟩, -⟩, -, ⟨n, -, -, f3, f4, -⟩, ⟨n6, -, g2, g3, -⟩, -⟩ := id I
  have hc := (inP_of R J U).1
  by_cases h2 : y < 0 ∨ 16 < y
  · refine pr_ask (k := 1) (v := 0) (v2 := 0) I (by decide) (fun _ => rfl) (fun w Po H hp => ct_X9_number H J.inC ?_) (fun w2 Po hp => ct_X10_number hc ?_)
    · by_cases h3 : y < 0
      · rw [if_pos h3]; exact hp
      · rw [if_neg h3, if_neg (Int32.not_le.mpr (h2.resolve_left h3))]; exact hp
    · rw [if_pos h2]; exact hp
  · obtain ⟨q, hq, rfl⟩ := k_of (N := 16) (by decide) (fun z => h2 (Or.inl z)) (fun z => h2 (Or.inr z))
    have hb : nI q ≤ 16 := (nI_leI (b := 16) (by omega) (by decide)).mpr hq
    refine pr_ask (k := 0) (v := if nI q = 15 then h.2.1.2 else if nI q = 16 then h.2.2.1.1 0 else stToldS (h.1 0) (nI q)) (v2 := mNum d o (nI q)) I (by decide) (fun _ => ?_) (fun w Po H hp => ct_X9_number H J.inC ?_) (fun w2 Po hp => ct_X10_number hc ?_)
    · by_cases q15 : nI q = 15
      · have e4 : q = 15 := nI_inj (b := 15) (by omega) (by decide) q15
        subst e4
        rw [if_pos q15, f3]; exact f4
      · rw [if_neg q15]
        by_cases q16 : nI q = 16
        · have e4 : q = 16 := nI_inj (b := 16) (by omega) (by decide) q16
          subst e4
          rw [if_pos q16, g2]; exact g3
        · rw [if_neg q16]
          have n15 : q ≠ 15 := fun z => q15 (by rw [z]; rfl)
          have n16 : q ≠ 16 := fun z => q16 (by rw [z]; rfl)
          exact (told_e R J (by omega)).symm
    · rw [if_neg (nI_pos (by omega)), if_pos hb]
      by_cases q15 : nI q = 15
      · rw [if_pos q15] at hp ⊢; exact hp w H Fr.id
      · rw [if_neg q15] at hp ⊢
        by_cases q16 : nI q = 16
        · rw [if_pos q16] at hp ⊢; exact hp w H Fr.id
        · rw [if_neg q16] at hp ⊢; exact hp w H Fr.id
    · rw [if_neg h2]; exact hp
theorem pr_heats {z y : Int32} (h1 : ¬ (z < 1 ∨ 3 < z)) (h2 : ¬ (y < 10 ∨ 60 < y)) : (∃ a, a ≤ 2 ∧ z = nI (a + 1)) ∧ (∃ b, b ≤ 50 ∧ y = nI (b + 10)) :=
  ⟨z_of (A := 1) (N := 3) (by decide) (by decide) (fun q => h1 (Or.inl q)) (fun q => h1 (Or.inr q)), z_of (A := 10) (N := 60) (by decide) (by decide) (fun q => h2 (Or.inl q)) (fun q => h2 (Or.inr q))⟩
theorem rq_1 {Po : xPo} {w : xW} {z y : Int32} {Pp : Prop} (h1 : z < 1 ∨ 3 < z) (hp : ∀ q, w.2 ≤ q → Po (.inr "java/lang/IllegalArgumentException") (w.1, q)) : rqW Po w z y Pp := by
  unfold rqW
  rw [if_pos h1]; exact hp
theorem rq_2 {Po : xPo} {w : xW} {z y : Int32} {Pp : Prop} (h1 : ¬ (z < 1 ∨ 3 < z)) (h2 : y < 10 ∨ 60 < y) (hp : ∀ q, w.2 ≤ q → Po (.inr "java/lang/IllegalArgumentException") (w.1, q)) : rqW Po w z y Pp := by
  unfold rqW
  rw [if_neg h1]
  by_cases h3 : y < 10
  · rw [if_pos h3]; exact hp
  · rw [if_neg h3, if_neg (Int32.not_le.mpr (h2.resolve_left h3))]; exact hp
theorem rq_3 {Po : xPo} {w : xW} {z y : Int32} {Pp : Prop} (h1 : ¬ (z < 1 ∨ 3 < z)) (h2 : ¬ (y < 10 ∨ 60 < y)) (hp : Pp) : rqW Po w z y Pp := by
  unfold rqW
  rw [if_neg h1, if_neg (fun q => h2 (Or.inl q)), if_pos (Int32.not_lt.mp (fun q => h2 (Or.inr q)))]; exact hp
theorem pr_heatsIn {z y : Int32} (I : IV K h d r o t) : PR M_X9_heatsIn M_X10_heatsIn E x m K h d r o t [.int z, .int y] [.int z, .int y] ["java/lang/IllegalArgumentException"] := by
  by_cases h1 : z < 1 ∨ 3 < z
  · refine pr_ask (k := 1) (v := 0) (v2 := 0) I (by decide) (fun _ => rfl) (fun w Po H hp => ct_X9_heatsIn (rq_1 h1 (fun q hq => hp _ (H.sz hq) (Fr.id.sz hq)))) (fun w2 Po hp => ct_X10_heatsIn ?_)
    rw [if_pos h1]; exact hp
  · by_cases h2 : y < 10 ∨ 60 < y
    · refine pr_ask (k := 1) (v := 0) (v2 := 0) I (by decide) (fun _ => rfl) (fun w Po H hp => ct_X9_heatsIn (rq_2 h1 h2 (fun q hq => hp _ (H.sz hq) (Fr.id.sz hq)))) (fun w2 Po hp => ct_X10_heatsIn ?_)
      rw [if_neg h1, if_pos h2]; exact hp
    · obtain ⟨⟨a, ha, rfl⟩, ⟨b, hb, rfl⟩⟩ := pr_heats h1 h2
      refine pr_ask (k := 0) (v := nI (hiF (nI (a + 1)) 60 (nI (b + 10)) 0)) (v2 := nI (hmF (nI (a + 1)) 30 (nI (b + 10)) 0)) I (by decide) (fun _ => congrArg nI (hin_e a (by omega) b (by omega)).symm) (fun w Po H hp => ct_X9_heatsIn (rq_3 h1 h2 (hp w H Fr.id))) (fun w2 Po hp => ct_X10_heatsIn ?_)
      rw [if_neg h1, if_neg h2]; exact hp
theorem pr_heatsAgain {z y : Int32} (I : IV K h d r o t) : PR M_X9_heatsAgain M_X10_heatsAgain E x m K h d r o t [.int z, .int y] [.int z, .int y] ["java/lang/IllegalArgumentException"] := by
  by_cases h1 : z < 1 ∨ 3 < z
  · refine pr_ask (k := 1) (v := 0) (v2 := 0) I (by decide) (fun _ => rfl) (fun w Po H hp => ct_X9_heatsAgain (rq_1 h1 (fun q hq => hp _ (H.sz hq) (Fr.id.sz hq)))) (fun w2 Po hp => ct_X10_heatsAgain ?_)
    rw [if_pos h1]; exact hp
  · by_cases h2 : y < 10 ∨ 60 < y
    · refine pr_ask (k := 1) (v := 0) (v2 := 0) I (by decide) (fun _ => rfl) (fun w Po H hp => ct_X9_heatsAgain (rq_2 h1 h2 (fun q hq => hp _ (H.sz hq) (Fr.id.sz hq)))) (fun w2 Po hp => ct_X10_heatsAgain ?_)
      rw [if_neg h1, if_pos h2]; exact hp
    · obtain ⟨⟨a, ha, rfl⟩, ⟨b, hb, rfl⟩⟩ := pr_heats h1 h2
      refine pr_ask (k := 0) (v := (if 38 - nI (b + 10) ≤ 0 then 0 else if 0 < degS (nI (a + 1)) then (38 - nI (b + 10) + degS (nI (a + 1)) - 1) / degS (nI (a + 1)) else 0)) (v2 := nI (hmF (nI (a + 1)) 30 (nI (b + 10)) 0)) I (by decide) (fun _ => (hag_e a (by omega) b (by omega)).symm) (fun w Po H hp => ct_X9_heatsAgain (rq_3 h1 h2 (hp w H Fr.id))) (fun w2 Po hp => ct_X10_heatsAgain ?_)
      rw [if_neg h1, if_neg h2]; exact hp
theorem pr_faultPosition (I : IV K h d r o t) : PR M_X9_faultPosition M_X10_faultPosition E x m K h d r o t [] [] ["java/util/NoSuchElementException"] := by
  obtain ⟨-, -, -, -, q5, -⟩ := id I
  by_cases h1 : 0 ≤ h.2.2.2.1.2
  · refine pr_ask (k := 0) (v := h.2.2.2.1.2) (v2 := o 10) I (by decide) (fun _ => q5) (fun w Po H hp => ct_X9_faultPosition H ?_) (fun w2 Po hp => ct_X10_faultPosition ?_)
    · rw [if_pos h1]; exact hp w H Fr.id
    · rw [if_pos (by rw [q5]; exact h1)]; exact hp
  · refine pr_ask (k := 1) (v := 0) (v2 := 0) I (by decide) (fun _ => rfl) (fun w Po H hp => ct_X9_faultPosition H ?_) (fun w2 Po hp => ct_X10_faultPosition ?_)
    · rw [if_neg h1]; exact hp
    · rw [if_neg (by rw [q5]; exact h1)]; exact hp
theorem pr_refusal {z : Int32} (I : IV K h d r o t) : PR M_X9_refusal M_X10_refusal E x m K h d r o t [.int z] [.int z] ["java/util/NoSuchElementException"] := by
  obtain ⟨⟨-, k1, k2⟩, -⟩ := id I
  by_cases h1 : (h.1 0).1 10 = 0
  · refine pr_ask (k := 1) (v := 0) (v2 := 0) I (by decide) (fun _ => rfl) (fun w Po H hp => ct_X9_refusal H ?_) (fun w2 Po hp => ct_X10_refusal ?_)
    · rw [if_pos h1]; exact hp
    · rw [if_pos (k1.trans h1)]; exact hp
  · by_cases h2 : z = 0
    · refine pr_ask (k := 0) (v := (h.1 0).1 11) (v2 := d.1 11) I (by decide) (fun _ => k2) (fun w Po H hp => ct_X9_refusal H ?_) (fun w2 Po hp => ct_X10_refusal ?_)
      · rw [if_neg h1, if_pos h2]; exact hp w H Fr.id
      · rw [if_neg (by rw [k1]; exact h1), if_pos h2]; exact hp
    · refine pr_ask (k := 0) (v := (h.1 0).1 10) (v2 := d.1 10) I (by decide) (fun _ => k1) (fun w Po H hp => ct_X9_refusal H ?_) (fun w2 Po hp => ct_X10_refusal ?_)
      · rw [if_neg h1, if_neg h2]; exact hp w H Fr.id
      · rw [if_neg (by rw [k1]; exact h1), if_neg h2]; exact hp
theorem pr_character {z : Int32} (I : IV K h d r o t) : PR M_P9_character M_X10_character E x m K h d r o t [.int z] [.int z] ["java/lang/IndexOutOfBoundsException"] := by
  obtain ⟨-, -, -, -, -, l, hl, l60, e6, el⟩ := id I
  have hch : ∀ k, k < l.length → narrow .char (.int (t.1 k)) = .int (t.1 k) := fun k hk => by
    rw [el k hk, List.getD_eq_getElem?_getD, List.getElem?_eq_getElem hk]
    exact (hl.2.2.2.2.1 _ (List.getElem_mem hk)).2.1
  have hb : (z < 0 ∨ ¬ z < nI l.length) ↔ (z < 0 ∨ nI l.length - 1 < z) := by
    have e1 : (nI l.length - 1).toInt = (l.length : Int) - 1 := sb2_toInt (a := l.length) (b := 1) (by omega) (by decide)
    rw [Int32.lt_iff_toInt_lt (x := nI l.length - 1), Int32.lt_iff_toInt_lt (y := nI l.length), e1, nI_toInt (by omega)]
    constructor
    · rintro (q | q)
      · exact Or.inl q
      · exact Or.inr (by omega)
    · rintro (q | q)
      · exact Or.inl q
      · exact Or.inr (by omega)
  by_cases h1 : z < 0 ∨ ¬ z < nI l.length
  · refine pr_ask (k := 1) (v := 0) (v2 := 32) I (by decide) (fun q => absurd q (by decide)) (fun w Po H hp => ct_P9_character H hl ?_) (fun w2 Po hp => ct_X10_character l60 e6 hch ?_)
    · rw [if_pos h1]; exact hp
    · rw [if_pos (hb.mp h1)]; exact hp
  · have hz : ∃ j, j < l.length ∧ z = nI j := ixOf (by omega) (fun q => h1 (Or.inl q)) (fun q => h1 (Or.inr (Int32.not_lt.mpr q)))
    obtain ⟨j, hj, ej⟩ := hz
    refine pr_ask (k := 0) (v := l.getD z.toNatClampNeg 0) (v2 := t.1 z.toNatClampNeg) I (by decide) (fun _ => ?_) (fun w Po H hp => ct_P9_character H hl ?_) (fun w2 Po hp => ct_X10_character l60 e6 hch ?_)
    · rw [ej, nI_cl (by omega)]; exact el j hj
    · rw [if_neg h1]; exact hp w H Fr.id
    · rw [if_neg (fun q => h1 (hb.mpr q))]; exact hp
theorem pr_feed {y : Int32} (hy : vp_nar .char y = y) (I : IV K h d r o t) : PR M_X9_feed M_X10_feed E x m K h d r o t [.int y] [.int y] ["java/lang/IllegalStateException"] := by
  obtain ⟨A, B, C, ⟨n, g1, g2, g3, g4⟩, D, G⟩ := id I
  by_cases h6 : n = 60
  · refine pr_ask (k := 1) (v := 0) (v2 := 0) I (by decide) (fun _ => rfl) (fun w Po H hp => ct_X9_feed hy H ?_) (fun w2 Po hp => ct_X10_feed hy g1 g3 ?_)
    · rw [g2, h6, if_neg (show ¬ nI 60 < 0 from nI_pos (by decide)), if_neg (show ¬ nI 60 < (60 : Int32) from Int32.lt_irrefl)]; exact hp
    · rw [if_pos h6]; exact hp
  · intro w H
    refine ⟨0, nI (n + 1), nI (n + 1), fun g => g = (h.1, h.2.1, (upd h.2.2.1.1 0 (h.2.2.1.1 0 + 1), h.2.2.1.2.1, upd h.2.2.1.2.2 (h.2.2.1.1 0).toNatClampNeg y), h.2.2.2), fun d2 r2 o2 t2 => d2 = d ∧ r2 = r ∧ o2 = upd (upd o 2 0) 7 (nI (n + 1)) ∧ t2 = (t.1, upd t.2.1 n y, t.2.2), Nat.zero_le _, fun _ => rfl, fun Po hp => ct_X9_feed hy H ?_, fun w2 Po hp => ct_X10_feed hy g1 g3 ?_, ?_⟩
    · have q := hp
      rw [if_neg (by rw [g2]; exact nI_pos (by omega)), if_pos (by rw [g2]; exact nI_lt (b := 60) (by omega) (by decide))]
      intro u hu fu
      have := hp u _ rfl (Or.inl rfl) hu fu
      rw [g2, nI_1]; exact this
    · rw [if_neg h6]; exact hp _ _ _ _ ⟨rfl, rfl, rfl, rfl⟩
    · rintro h2 d2 r2 o2 t2 rfl ⟨rfl, rfl, rfl, rfl⟩
      refine ⟨IV.mono (K := K) ⟨A, ?_, ?_, ⟨n + 1, by omega, ?_, upd_s, ?_⟩, ?_, ?_⟩ (by omega), (upd_o (by decide)).trans upd_s⟩
      · rw [show upd (upd o 2 0) 7 (nI (n + 1)) 0 = o 0 from (upd_o (by decide)).trans (upd_o (by decide))]; exact B
      · rw [show upd (upd o 2 0) 7 (nI (n + 1)) 1 = o 1 from (upd_o (by decide)).trans (upd_o (by decide))]; exact C
      · show upd h.2.2.1.1 0 (h.2.2.1.1 0 + 1) 0 = nI (n + 1)
        rw [upd_s, g2, nI_1]
      · show upd h.2.2.1.2.2 (h.2.2.1.1 0).toNatClampNeg y = upd t.2.1 n y
        rw [g2, nI_cl (by omega), g4]
      · rw [show upd (upd o 2 0) 7 (nI (n + 1)) 10 = o 10 from (upd_o (by decide)).trans (upd_o (by decide))]; exact D
      · rw [show upd (upd o 2 0) 7 (nI (n + 1)) 6 = o 6 from (upd_o (by decide)).trans (upd_o (by decide))]; exact G
theorem pr_undo (I : IV K h d r o t) : PR M_X9_undo M_X10_undo E x m K h d r o t [] [] ["java/lang/IllegalStateException"] := by
  obtain ⟨⟨A, A2⟩, ⟨B, B2⟩, ⟨n, f1, f2, f3, f4, f5⟩, C⟩ := id I
  by_cases h0 : n = 0
  · subst h0
    refine pr_ask (k := 1) (v := 0) (v2 := 0) I (by decide) (fun _ => rfl) (fun w Po H hp => ct_X9_undo H ?_) (fun w2 Po hp => ct_X10_undo f1 f4 ?_)
    · rw [if_pos (show h.2.1.2 = 0 from f3)]; exact hp
    · rw [if_pos rfl]; exact hp
  · intro w H
    have e1 : nI n - 1 = nI (n - 1) := pk_sub (a := n) (b := 1) (by omega)
    refine ⟨0, h.2.1.2 - 1, nI (n - 1), fun g => g = upS (h.1, (((h.2.1.1 + 8) % 9), h.2.1.2 - 1), h.2.2) 0 (cpS (h.1 0) (h.1 (3 + ((h.2.1.1 + 8) % 9)))), fun d2 r2 o2 t2 => d2 = cpS d (r.2.2.2 (n - 1)) ∧ r2 = r ∧ o2 = upd (upd o 2 0) 1 (nI (n - 1)) ∧ t2 = t, Nat.zero_le _, fun _ => by rw [f3]; exact e1.symm, fun Po hp => ct_X9_undo H ?_, fun w2 Po hp => ct_X10_undo f1 f4 ?_, ?_⟩
    · rw [if_neg (by rw [f3]; exact nI_ne (b := 0) h0 (by omega) (by decide))]
      exact fun u hu fu => hp u _ rfl (Or.inl rfl) hu fu
    · rw [if_neg h0]; exact hp _ _ _ _ ⟨rfl, rfl, rfl, rfl⟩
    · rintro h2 d2 r2 o2 t2 rfl ⟨rfl, rfl, rfl, rfl⟩
      have g := f5 (n - 1) (by omega)
      rw [show (h.2.1.1 + 9 - n + (n - 1)) % 9 = (h.2.1.1 + 8) % 9 by omega] at g
      refine ⟨IV.mono (K := K) ⟨⟨g.cp, kr_cp A2⟩, ⟨?_, ?_⟩, ⟨n - 1, by omega, Nat.mod_lt _ (by decide), ?_, upd_s, fun i hi => ?_⟩, ?_⟩ (by omega), (upd_o (by decide)).trans upd_s⟩
      · exact ((upd_o (by decide)).trans (upd_o (by decide))).trans B
      · rw [show upd (upd o 2 0) 1 (nI (n - 1)) 0 = o 0 from (upd_o (by decide)).trans (upd_o (by decide))]; exact B2
      · show h.2.1.2 - 1 = _
        rw [f3]; exact e1
      · show G9 K (if 3 + ((h.2.1.1 + 8) % 9 + 9 - (n - 1) + i) % 9 = 0 then _ else h.1 (3 + ((h.2.1.1 + 8) % 9 + 9 - (n - 1) + i) % 9)) _
        rw [if_neg (by omega), show ((h.2.1.1 + 8) % 9 + 9 - (n - 1) + i) % 9 = (h.2.1.1 + 9 - n + i) % 9 by omega]
        exact f5 i (by omega)
      · obtain ⟨⟨n6, g1, g2, g3, g4⟩, D, l, l1, l2, l3, l4⟩ := C
        exact ⟨⟨n6, g1, g2, ((upd_o (by decide)).trans (upd_o (by decide))).trans g3, g4⟩, ((upd_o (by decide)).trans (upd_o (by decide))).trans D, l, l1, l2, ((upd_o (by decide)).trans (upd_o (by decide))).trans l3, l4⟩
theorem pr_saveSnapshot (I : IV K h d r o t) : PR M_X9_saveSnapshot M_X10_saveSnapshot E x m K h d r o t [] [] [] := by
  obtain ⟨⟨A, A2⟩, ⟨B, B2⟩, ⟨n, f1, f2, f3, f4, f5⟩, ⟨n6, g1, g2, g3, g4⟩, D, l, l1, l2, l3, l4⟩ := id I
  intro w H
  refine ⟨0, (h.1 0).1 1, d.1 1, fun g => g = hSv (upS h 2 (cpS (h.1 2) (h.1 0))) 1 h.2.2.2.1.2, fun d2 r2 o2 t2 => d2 = d ∧ r2 = (r.1, r.2.1, d, r.2.2.2) ∧ o2 = upd (upd o 2 0) 0 1 ∧ t2 = t, Nat.zero_le _, fun _ => (A.1.1 1 (by decide)).symm, fun Po hp => ct_X9_saveSnapshot H (fun u hu fu => hp u _ rfl (Or.inl rfl) hu fu), fun w2 Po hp => ct_X10_saveSnapshot (hp _ _ _ _ ⟨rfl, rfl, rfl, rfl⟩), ?_⟩
  rintro h2 d2 r2 o2 t2 rfl ⟨rfl, rfl, rfl, rfl⟩
  refine ⟨IV.mono (K := K) ⟨⟨A, A2⟩, ⟨upd_s, Or.inr ⟨upd_s, ?_⟩⟩, ⟨n, f1, f2, f3, ((upd_o (by decide)).trans (upd_o (by decide))).trans f4, fun i hi => ?_⟩, ⟨n6, g1, g2, ((upd_o (by decide)).trans (upd_o (by decide))).trans g3, g4⟩, ((upd_o (by decide)).trans (upd_o (by decide))).trans D, l, l1, l2, ((upd_o (by decide)).trans (upd_o (by decide))).trans l3, l4⟩ (by omega), (upd_o (by decide)).trans upd_s⟩
  · show G9 K (cpS (h.1 2) (h.1 0)) d2
    exact A.cpl
  · show G9 K (if 3 + (h.2.1.1 + 9 - n + i) % 9 = 2 then _ else h.1 (3 + (h.2.1.1 + 9 - n + i) % 9)) _
    rw [if_neg (by omega)]; exact f5 i hi
theorem pr_restoreSnapshot (I : IV K h d r o t) : PR M_X9_restoreSnapshot M_X10_restoreSnapshot E x m K h d r o t [] [] ["java/lang/IllegalStateException"] := by
  obtain ⟨⟨A, A2⟩, ⟨B, B2⟩, ⟨n, f1, f2, f3, f4, f5⟩, ⟨n6, g1, g2, g3, g4⟩, D, l, l1, l2, l3, l4⟩ := id I
  rcases B2 with h0 | ⟨h0, B3⟩
  · refine pr_ask (k := 1) (v := 0) (v2 := 0) I (by decide) (fun _ => rfl) (fun w Po H hp => ct_X9_restoreSnapshot H ?_) (fun w2 Po hp => ct_X10_restoreSnapshot ?_)
    · rw [if_pos (B.symm.trans h0)]; exact hp
    · rw [if_pos h0]; exact hp
  · intro w H
    have n0 : ¬ o 0 = 0 := by rw [h0]; decide
    refine ⟨0, (cpS (h.1 0) (h.1 2)).1 1, r.2.2.1.1 1, fun g => g = ((upS h 0 (cpS (h.1 0) (h.1 2))).1, (h.2.1.1, 0), (upS h 0 (cpS (h.1 0) (h.1 2))).2.2), fun d2 r2 o2 t2 => d2 = cpS d r.2.2.1 ∧ r2 = r ∧ o2 = upd (upd o 2 0) 1 0 ∧ t2 = t, Nat.zero_le _, fun _ => (B3.1.1 1 (by decide)).symm, fun Po hp => ct_X9_restoreSnapshot H ?_, fun w2 Po hp => ct_X10_restoreSnapshot ?_, ?_⟩
    · rw [if_neg (by rw [← B]; exact n0)]
      exact fun u hu fu => hp u _ rfl (Or.inl rfl) hu fu
    · rw [if_neg n0]; exact hp _ _ _ _ ⟨rfl, rfl, rfl, rfl⟩
    · rintro h2 d2 r2 o2 t2 rfl ⟨rfl, rfl, rfl, rfl⟩
      refine ⟨IV.mono (K := K) ⟨⟨B3.cp, kr_cp A2⟩, ⟨?_, Or.inr ⟨?_, B3⟩⟩, ⟨0, by decide, f2, rfl, upd_s, fun i hi => absurd hi (Nat.not_lt_zero _)⟩, ⟨n6, g1, g2, ((upd_o (by decide)).trans (upd_o (by decide))).trans g3, g4⟩, ((upd_o (by decide)).trans (upd_o (by decide))).trans D, l, l1, l2, ((upd_o (by decide)).trans (upd_o (by decide))).trans l3, l4⟩ (by omega), (upd_o (by decide)).trans upd_s⟩
      · exact ((upd_o (by decide)).trans (upd_o (by decide))).trans B
      · exact ((upd_o (by decide)).trans (upd_o (by decide))).trans h0
theorem pr_towels (I : IV K h d r o t) : PR M_X9_towels M_X10_towels E x m K h d r o t [] [] [] :=
  pr_ask (k := 0) (v := (h.1 0).1 4 + (h.1 0).1 5 + ((h.1 0).1 8 - (h.1 0).1 9)) (v2 := d.1 4 + d.1 5 + d.1 8 - d.1 9) I (Nat.zero_le _) (fun _ => (towel_e I.1.1.1).symm) (fun w Po H hp => ct_X9_towels H (hp w H Fr.id)) (fun w2 Po hp => ct_X10_towels hp)
end PAIRS2
