/-! ===== 56.ud: what the reference's row holds where nothing has been added, and what its own keeps ===== -/
def UD (d : xCo) : Prop := (∀ j, j < 8 → ∃ a, a ≤ 60 ∧ d.2.1 j 4 = nI a) ∧ (∀ j, n1 d ≤ j → j < 8 → ∀ k, k < 7 → d.2.1 j k = 0) ∧ (∀ u, n2 d ≤ u → u < 5 → ∀ k, k < 11 → d.2.2.1 u k = 0) ∧ (∀ g, n3 d ≤ g → g < 4 → ∀ k, k < 2 → d.2.2.2 g k = 0) ∧ (∀ u, u < 5 → ∀ k, 5 ≤ k → k < 11 → ¬ d.2.2.1 u k < 0)
theorem ud_S {d : xCo} {k : Nat} {x : Int32} (U : UD d) (h : k ≠ 1 ∧ k ≠ 2 ∧ k ≠ 3) : UD (cS d k x) := by
  obtain ⟨e1, e2, e3⟩ := n_cS (c := d) (x := x) h
  unfold UD
  rw [e1, e2, e3]
  exact U
theorem ud_T {d : xCo} {j k : Nat} {x : Int32} (U : UD d) (hj : j < n1 d) (hx : k = 4 → ∃ a, a ≤ 60 ∧ x = nI a) : UD (cT d j k x) := by
  obtain ⟨a, b, c⟩ := U
  refine ⟨fun i hi => ?_, fun i h1 h2 => ?_, c⟩
  · show ∃ a, a ≤ 60 ∧ up2 d.2.1 j k x i 4 = nI a
    by_cases e : i = j
    · subst e
      rw [up2_r]
      by_cases e4 : k = 4
      · subst e4; rw [upd_s]; exact hx rfl
      · rw [upd_o (fun z => e4 z.symm)]; exact a i hi
    · rw [up2_n e]; exact a i hi
  · have e : i ≠ j := fun z => by
      have h1' : n1 d ≤ i := h1
      omega
    show ∀ k2, k2 < 7 → up2 d.2.1 j k x i k2 = 0
    rw [up2_n e]; exact b i h1 h2
theorem ud_U {d : xCo} {v k : Nat} {x : Int32} (U : UD d) (hv : v < n2 d) (hx : 5 ≤ k → ¬ x < 0) : UD (cU d v k x) := by
  obtain ⟨a, b, c, g, e⟩ := U
  refine ⟨a, b, fun i h1 h2 => ?_, g, fun i hi k2 h5 h11 => ?_⟩
  · have ne : i ≠ v := fun z => by
      have h1' : n2 d ≤ i := h1
      omega
    show ∀ k2, k2 < 11 → up2 d.2.2.1 v k x i k2 = 0
    rw [up2_n ne]; exact c i h1 h2
  · show ¬ up2 d.2.2.1 v k x i k2 < 0
    by_cases q : i = v
    · subst q
      rw [up2_r]
      by_cases r : k2 = k
      · subst r; rw [upd_s]; exact hx h5
      · rw [upd_o r]; exact e i hi k2 h5 h11
    · rw [up2_n q]; exact e i hi k2 h5 h11
theorem ud_G {d : xCo} {v k : Nat} {x : Int32} (U : UD d) (hv : v < n3 d) : UD (cG d v k x) := by
  obtain ⟨a, b, c, g, e⟩ := U
  refine ⟨a, b, c, fun i h1 h2 => ?_, e⟩
  have ne : i ≠ v := fun z => by
    have h1' : n3 d ≤ i := h1
    omega
  show ∀ k2, k2 < 2 → up2 d.2.2.2 v k x i k2 = 0
  rw [up2_n ne]; exact g i h1 h2
theorem ud_R {d : xCo} {a b : Int32} (U : UD d) : UD (cR d a b) := ud_S (ud_S U (by decide)) (by decide)
theorem ud_Sh {d : xCo} {v : Nat} (U : UD d) (hv : v < n2 d) : UD (cSh d v) := by
  obtain ⟨a, b, c, g, e⟩ := U
  refine ⟨a, b, fun i h1 h2 => ?_, g, fun i hi k2 h5 h11 => ?_⟩
  · have ne : i ≠ v := fun z => by
      have h1' : n2 d ≤ i := h1
      omega
    rw [cSh_o ne]; exact c i h1 h2
  · by_cases q : i = v
    · subst q
      rw [cSh_u]
      unfold shF
      by_cases r : 5 ≤ k2 ∧ k2 < 5 + 5
      · rw [if_pos r]; exact e i hi (k2 + 1) (by omega) (by omega)
      · rw [if_neg r]; exact e i hi k2 h5 h11
    · rw [cSh_o q]; exact e i hi k2 h5 h11
theorem r_n {c d : xCo} (R : R9 c d) : n1 d = n1 c ∧ n2 d = n2 c ∧ n3 d = n3 c := ⟨congrArg Int32.toNatClampNeg (R.1 1 (by decide)).symm, congrArg Int32.toNatClampNeg (R.1 2 (by decide)).symm, congrArg Int32.toNatClampNeg (R.1 3 (by decide)).symm⟩
theorem dT_n {K : Nat} {c d : xCo} {t : Int32} (R : R9 c d) (J : J9 K c) (h : okT d t) : t.toNatClampNeg < n1 d := by
  obtain ⟨j, h1, h2, rfl⟩ := okT_n J ((okT_e R).mp h)
  rw [nI_cl (by omega), (r_n R).1]; exact h1
theorem dU_n {K : Nat} {c d : xCo} {t : Int32} (R : R9 c d) (J : J9 K c) (h : okU d t) : t.toNatClampNeg < n2 d := by
  obtain ⟨j, h1, h2, rfl⟩ := okU_n J ((okU_e R).mp h)
  rw [nI_cl (by omega), (r_n R).2.1]; exact h1
theorem dG_n {K : Nat} {c d : xCo} {t : Int32} (R : R9 c d) (J : J9 K c) (h : okG d t) : t.toNatClampNeg < n3 d := by
  obtain ⟨j, h1, h2, rfl⟩ := okG_n J ((okG_e R).mp h)
  rw [nI_cl (by omega), (r_n R).2.2]; exact h1
/-- where the reference's places lead -/
theorem d_t1 {K : Nat} {c d : xCo} {j : Nat} (R : R9 c d) (J : J9 K c) (hj : j < n1 d) : d.2.1 j 1 = -1 ∨ ∃ u, u < n2 d ∧ u < 5 ∧ d.2.1 j 1 = nI u := by
  rw [(r_n R).1] at hj
  rw [(r_n R).2.1, ← (R.2.1 j hj).1 1 (by decide) (by decide)]
  have a5 := J.1.2.1.2
  have a8 := J.1.1.2
  rcases J.2.2.2.2.2.1.1 j (by omega) with h | ⟨u, hu, e, -⟩
  · exact Or.inl h
  · exact Or.inr ⟨u, hu, by omega, e⟩
theorem d_u1 {K : Nat} {c d : xCo} {u : Nat} (R : R9 c d) (J : J9 K c) (hu : u < n2 d) : d.2.2.1 u 1 = -1 ∨ ∃ j, j < n1 d ∧ j < 8 ∧ d.2.2.1 u 1 = nI j := by
  rw [(r_n R).2.1] at hu
  rw [(r_n R).1, ← R.2.2.1 u hu 1 (by decide)]
  have a5 := J.1.2.1.2
  have a8 := J.1.1.2
  rcases J.2.2.2.2.2.1.2.1 u (by omega) with h | ⟨j, hj, e, -⟩
  · exact Or.inl h
  · exact Or.inr ⟨j, hj, by omega, e⟩
theorem d_u2 {K : Nat} {c d : xCo} {u : Nat} (R : R9 c d) (J : J9 K c) (hu : u < n2 d) : d.2.2.1 u 2 = -1 ∨ ∃ g, g < n3 d ∧ g < 4 ∧ d.2.2.1 u 2 = nI g := by
  rw [(r_n R).2.1] at hu
  rw [(r_n R).2.2, ← R.2.2.1 u hu 2 (by decide)]
  have a5 := J.1.2.1.2
  have a4 := J.1.2.2.2
  rcases J.2.2.2.2.2.1.2.2.1 u (by omega) with h | ⟨j, hj, e, -⟩
  · exact Or.inl h
  · exact Or.inr ⟨j, hj, by omega, e⟩
theorem d_g1 {K : Nat} {c d : xCo} {g : Nat} (R : R9 c d) (J : J9 K c) (hg : g < n3 d) : d.2.2.2 g 1 = -1 ∨ ∃ u, u < n2 d ∧ u < 5 ∧ d.2.2.2 g 1 = nI u := by
  rw [(r_n R).2.2] at hg
  rw [(r_n R).2.1, ← R.2.2.2 g hg 1 (by decide)]
  have a5 := J.1.2.1.2
  have a4 := J.1.2.2.2
  rcases J.2.2.2.2.2.1.2.2.2 g (by omega) with h | ⟨j, hj, e, -⟩
  · exact Or.inl h
  · exact Or.inr ⟨j, hj, by omega, e⟩
theorem not0_m1 {x : Int32} (e : x = -1) (h : 0 ≤ x) : False := by rw [e] at h; exact no_m1 h
theorem inP_of {K : Nat} {c d : xCo} (R : R9 c d) (J : J9 K c) (U : UD d) : inP d := by
  obtain ⟨e1, e2, e3⟩ := r_n R
  have a8 := J.1.1
  have a5 := J.1.2.1
  have a4 := J.1.2.2
  refine ⟨⟨⟨n1 c, a8.2, by rw [← R.1 1 (by decide)]; exact a8.1⟩, ⟨n2 c, a5.2, by rw [← R.1 2 (by decide)]; exact a5.1⟩, ⟨n3 c, a4.2, by rw [← R.1 3 (by decide)]; exact a4.1⟩, fun u hu => ?_⟩, fun j hj h => ?_, fun u hu h => ?_, fun u hu h => ?_, fun g hg h => ?_⟩
  · by_cases q : u < n2 c
    · rw [← R.2.2.1 u q 4 (by decide)]
      exact (J.2.2.2.1 u hu).2
    · exact ⟨0, by omega, U.2.2.1 u (by omega) hu 4 (by decide)⟩
  · by_cases q : j < n1 d
    · rcases d_t1 R J q with e | ⟨u, -, h5, e⟩
      · exact (not0_m1 e h).elim
      · exact ⟨u, h5, e⟩
    · exact ⟨0, by omega, U.2.1 j (by omega) hj 1 (by decide)⟩
  · by_cases q : u < n2 d
    · rcases d_u1 R J q with e | ⟨j, -, h5, e⟩
      · exact (not0_m1 e h).elim
      · exact ⟨j, h5, e⟩
    · exact ⟨0, by omega, U.2.2.1 u (by omega) hu 1 (by decide)⟩
  · by_cases q : u < n2 d
    · rcases d_u2 R J q with e | ⟨j, -, h5, e⟩
      · exact (not0_m1 e h).elim
      · exact ⟨j, h5, e⟩
    · exact ⟨0, by omega, U.2.2.1 u (by omega) hu 2 (by decide)⟩
  · by_cases q : g < n3 d
    · rcases d_g1 R J q with e | ⟨j, -, h5, e⟩
      · exact (not0_m1 e h).elim
      · exact ⟨j, h5, e⟩
    · exact ⟨0, by omega, U.2.2.2.1 g (by omega) hg 1 (by decide)⟩
theorem inH_of {K : Nat} {c d : xCo} (R : R9 c d) (J : J9 K c) (U : UD d) : inH d (n2 c) := by
  obtain ⟨e1, e2, e3⟩ := r_n R
  have a5 := J.1.2.1
  refine ⟨a5.2, by rw [← R.1 2 (by decide)]; exact a5.1, fun u hu h => ?_, (inP_of R J U).2.2.2.1⟩
  rcases d_u1 R J (show u < n2 d by omega) with e | ⟨j, h1, h5, e⟩
  · exact (not0_m1 e h).elim
  · refine ⟨j, h5, e, ?_⟩
    rw [← (R.2.1 j (by omega)).1 0 (by decide) (by decide)]
    exact J.2.2.2.2.2.2.2 j (by omega)
theorem inL_of {K : Nat} {c d : xCo} (R : R9 c d) (J : J9 K c) (U : UD d) : inL d := by
  obtain ⟨e1, e2, e3⟩ := r_n R
  refine ⟨inP_of R J U, fun j hj => ?_, fun j hj => ?_, fun g hg => ?_⟩
  · by_cases q : j < n1 d
    · rw [← (R.2.1 j (by omega)).1 3 (by decide) (by decide)]
      obtain ⟨l, h, e⟩ := (J.2.2.1 j hj).2.2.1
      exact ⟨l, by omega, e⟩
    · exact ⟨0, by omega, U.2.1 j (by omega) hj 3 (by decide)⟩
  · obtain ⟨a, h, e⟩ := U.1 j hj
    exact ⟨a, by omega, e⟩
  · by_cases q : g < n3 d
    · rw [← R.2.2.2 g (by omega) 0 (by decide)]
      obtain ⟨l, h, e⟩ := J.2.2.2.2.1 g hg
      exact ⟨l, by omega, e⟩
    · exact ⟨0, by omega, U.2.2.2.1 g (by omega) hg 0 (by decide)⟩
theorem inD_of {K : Nat} {c : xCo} (J : J9 K c) : inD c := by
  refine ⟨fun j hj => ?_, fun j hj => ?_, fun u hu => ?_, fun g hg => ?_⟩
  · obtain ⟨l, h, e⟩ := (J.2.2.1 j hj).2.2.1
    exact ⟨l, by omega, e⟩
  · obtain ⟨l, h0, h, e⟩ := (J.2.2.1 j hj).2.2.2.1
    exact ⟨l, by omega, e⟩
  · obtain ⟨l, h, e⟩ := (J.2.2.2.1 u hu).2
    exact ⟨l, by omega, e⟩
  · obtain ⟨l, h, e⟩ := J.2.2.2.2.1 g hg
    exact ⟨l, by omega, e⟩
theorem cl_n {x : Int32} {N M : Nat} (h : ∃ u, u < N ∧ u < M ∧ x = nI u) (hM : M < 1000) : x.toNatClampNeg < N := by
  obtain ⟨u, h1, h2, rfl⟩ := h
  rw [nI_cl (by omega)]; exact h1
theorem ud_out {K : Nat} {c d : xCo} {t s : Int32} (R : R9 c d) (J : J9 K c) (U : UD d) : UD (mOut d t s).2.2 := by
  unfold mOut
  by_cases h1 : okT d t
  · rw [if_pos h1]
    by_cases h2 : okU d s
    · rw [if_pos h2]
      have hj := dT_n R J h1
      have hv := dU_n R J h2
      split
      · split
        · split
          · exact ud_U (ud_T (ud_T (ud_T (ud_S U (by decide)) hj (fun q => absurd q (by decide))) hj (fun q => absurd q (by decide))) hj (fun q => absurd q (by decide))) hv (fun q => absurd q (by decide))
          · exact ud_R U
        · exact ud_R U
      · exact ud_R U
    · rw [if_neg h2]; exact U
  · rw [if_neg h1]; exact U
theorem ud_back {K : Nat} {c d : xCo} {t : Int32} (R : R9 c d) (J : J9 K c) (U : UD d) : UD (mBack d t).2.2 := by
  unfold mBack
  by_cases h1 : okT d t
  · rw [if_pos h1]
    have hj := dT_n R J h1
    by_cases h2 : 0 ≤ d.2.1 t.toNatClampNeg 1
    · rw [if_pos h2]
      have hv : (d.2.1 t.toNatClampNeg 1).toNatClampNeg < n2 d := by
        rcases d_t1 R J hj with e | e
        · exact (not0_m1 e h2).elim
        · exact cl_n e (by decide)
      exact ud_U (ud_T (ud_T (ud_T U hj (fun q => absurd q (by decide))) hj (fun q => absurd q (by decide))) hj (fun q => absurd q (by decide))) hv (fun q => absurd q (by decide))
    · rw [if_neg h2]; exact ud_R U
  · rw [if_neg h1]; exact U
theorem ud_join {K : Nat} {c d : xCo} {t : Int32} (R : R9 c d) (J : J9 K c) (hK : K < 16000000) (U : UD d) : UD (mJoin d t).2.2 := by
  unfold mJoin
  by_cases h1 : okU d t
  · rw [if_pos h1]
    have hv := dU_n R J h1
    split
    · exact ud_R U
    · split
      · split
        · exact ud_R U
        · refine ud_S (ud_U (ud_U (ud_S U (by decide)) hv (fun _ => ?_)) hv (fun q => absurd q (by decide))) (by decide)
          rw [← R.1 8 (by decide)]
          obtain ⟨a, ha, ea⟩ := J.2.1.2.1
          rw [ea]; exact nI_pos (by omega)
      · exact ud_R U
  · rw [if_neg h1]; exact U
theorem ud_heat {K : Nat} {c d : xCo} {t s : Int32} (R : R9 c d) (J : J9 K c) (U : UD d) : UD (mHeat d t s).2.2 := by
  unfold mHeat
  by_cases h1 : okG d t
  · rw [if_pos h1]
    by_cases h2 : okU d s
    · rw [if_pos h2]
      have hj := dG_n R J h1
      have hv := dU_n R J h2
      split
      · split
        · exact ud_U (ud_G U hj) hv (fun q => absurd q (by decide))
        · exact ud_R U
      · exact ud_R U
    · rw [if_neg h2]; exact U
  · rw [if_neg h1]; exact U
theorem ud_cold {K : Nat} {c d : xCo} {t : Int32} (R : R9 c d) (J : J9 K c) (U : UD d) : UD (mCold d t).2.2 := by
  unfold mCold
  by_cases h1 : okG d t
  · rw [if_pos h1]
    have hj := dG_n R J h1
    by_cases h2 : 0 ≤ d.2.2.2 t.toNatClampNeg 1
    · rw [if_pos h2]
      have hv : (d.2.2.2 t.toNatClampNeg 1).toNatClampNeg < n2 d := by
        rcases d_g1 R J hj with e | e
        · exact (not0_m1 e h2).elim
        · exact cl_n e (by decide)
      exact ud_U (ud_G U hj) hv (fun q => absurd q (by decide))
    · rw [if_neg h2]; exact ud_R U
  · rw [if_neg h1]; exact U
theorem ud_gas {K : Nat} {c d : xCo} {t s : Int32} (R : R9 c d) (J : J9 K c) (U : UD d) : UD (mGas d t s).2.2 := by
  unfold mGas
  by_cases h1 : okG d t
  · rw [if_pos h1]
    have hj := dG_n R J h1
    split
    · exact U
    · split
      · exact ud_G (ud_S U (by decide)) hj
      · exact ud_R U
  · rw [if_neg h1]; exact U
theorem ud_wash {d : xCo} {x : Int32} (U : UD d) : UD (mWash d x).2.2 := by
  unfold mWash
  split
  · exact U
  · split
    · exact ud_R U
    · split
      · exact ud_S (ud_S (ud_S U (by decide)) (by decide)) (by decide)
      · exact ud_R U
theorem ud_soap {d : xCo} {x : Int32} (U : UD d) : UD (mSoap d x).2.2 := by
  unfold mSoap
  split
  · exact U
  · split
    · exact ud_S (ud_S U (by decide)) (by decide)
    · exact ud_R U
theorem ud_tear {K : Nat} {c d : xCo} {t s : Int32} (R : R9 c d) (J : J9 K c) (U : UD d) : UD (mTear d t s).2.2 := by
  unfold mTear
  by_cases h1 : okT d t
  · rw [if_pos h1]
    have hj := dT_n R J h1
    split
    · exact U
    · exact ud_T U hj (fun q => absurd q (by decide))
  · rw [if_neg h1]; exact U
theorem ud_mend {K : Nat} {c d : xCo} {t s : Int32} (R : R9 c d) (J : J9 K c) (U : UD d) : UD (mMend d t s).2.2 := by
  unfold mMend
  by_cases h1 : okT d t
  · rw [if_pos h1]
    have hj := dT_n R J h1
    split
    · exact U
    · split
      · exact ud_R U
      · split
        · split
          · exact ud_T (ud_S U (by decide)) hj (fun q => absurd q (by decide))
          · exact ud_R U
        · exact ud_R U
  · rw [if_neg h1]; exact U
theorem ud_heater {K : Nat} {c d : xCo} (R : R9 c d) (J : J9 K c) (U : UD d) : UD (mHeater d).2.2 := by
  unfold mHeater
  split
  · exact ud_R U
  · next h =>
    obtain ⟨e1, e2, e3⟩ := r_n R
    have a4 := J.1.2.2
    have ed : d.1 3 = nI (n3 d) := by rw [e3, ← R.1 3 (by decide)]; exact a4.1
    have h4 : n3 d < 4 := by
      have : n3 d ≠ 4 := fun z => h (by rw [ed, z]; rfl)
      omega
    rw [ed, nI_cl (by omega), nI_1]
    obtain ⟨a, b, c', g, e⟩ := U
    have en : n3 (cS (cG (cG d (n3 d) 0 20) (n3 d) 1 (-1)) 3 (nI (n3 d + 1))) = n3 d + 1 := by
      show (upd d.1 3 (nI (n3 d + 1)) 3).toNatClampNeg = _
      rw [upd_s, nI_cl (by omega)]
    refine ⟨a, b, c', fun i h1 h2 => ?_, e⟩
    rw [en] at h1
    have ne : i ≠ n3 d := by omega
    show ∀ k, k < 2 → up2 (up2 d.2.2.2 (n3 d) 0 20) (n3 d) 1 (-1) i k = 0
    rw [up2_n ne, up2_n ne]
    exact g i (by omega) h2
theorem ud_tub {K : Nat} {c d : xCo} {z : Int32} (R : R9 c d) (J : J9 K c) (U : UD d) : UD (mTub d z).2.2 := by
  unfold mTub
  split
  · exact U
  split
  · exact ud_R U
  · next h =>
    obtain ⟨e1, e2, e3⟩ := r_n R
    have a8 := J.1.1
    have ed : d.1 1 = nI (n1 d) := by rw [e1, ← R.1 1 (by decide)]; exact a8.1
    have h4 : n1 d < 8 := by
      have : n1 d ≠ 8 := fun z => h (by rw [ed, z]; rfl)
      omega
    rw [ed, nI_cl (by omega), nI_1]
    obtain ⟨a, b, c', g, e⟩ := U
    have en : n1 (cS (rowT d (n1 d) z 7) 1 (nI (n1 d + 1))) = n1 d + 1 := by
      show (upd d.1 1 (nI (n1 d + 1)) 1).toNatClampNeg = _
      rw [upd_s, nI_cl (by omega)]
    refine ⟨fun i hi => ?_, fun i h1 h2 k hk => ?_, c', g, e⟩
    · show ∃ a, a ≤ 60 ∧ (if i = n1 d ∧ 4 < 7 then (if 4 = 0 then z else if 4 = 1 then -1 else 0) else d.2.1 i 4) = nI a
      by_cases q : i = n1 d
      · rw [if_pos ⟨q, by decide⟩]
        exact ⟨0, by decide, rfl⟩
      · rw [if_neg (fun z => q z.1)]
        exact a i hi
    · rw [en] at h1
      have ne : i ≠ n1 d := by omega
      show (if i = n1 d ∧ k < 7 then (if k = 0 then z else if k = 1 then -1 else 0) else d.2.1 i k) = 0
      rw [if_neg (fun z => ne z.1)]
      exact b i (by omega) h2 k hk
theorem ud_tent {K : Nat} {c d : xCo} {z : Int32} (R : R9 c d) (J : J9 K c) (U : UD d) : UD (mTent d z).2.2 := by
  unfold mTent
  split
  · exact U
  split
  · exact ud_R U
  · next h =>
    obtain ⟨e1, e2, e3⟩ := r_n R
    have a8 := J.1.2.1
    have ed : d.1 2 = nI (n2 d) := by rw [e2, ← R.1 2 (by decide)]; exact a8.1
    have h4 : n2 d < 5 := by
      have : n2 d ≠ 5 := fun z => h (by rw [ed, z]; rfl)
      omega
    rw [ed, nI_cl (by omega), nI_1]
    obtain ⟨a, b, c', g, e⟩ := U
    have en : n2 (cS (rowU d (n2 d) z 11) 2 (nI (n2 d + 1))) = n2 d + 1 := by
      show (upd d.1 2 (nI (n2 d + 1)) 2).toNatClampNeg = _
      rw [upd_s, nI_cl (by omega)]
    refine ⟨a, b, fun i h1 h2 k hk => ?_, g, fun i hi k h5 h11 => ?_⟩
    · rw [en] at h1
      have ne : i ≠ n2 d := by omega
      show (if i = n2 d ∧ k < 11 then (if k = 0 then z else if k = 1 then -1 else if k = 2 then -1 else 0) else d.2.2.1 i k) = 0
      rw [if_neg (fun z => ne z.1)]
      exact c' i (by omega) h2 k hk
    · show ¬ (if i = n2 d ∧ k < 11 then (if k = 0 then z else if k = 1 then -1 else if k = 2 then -1 else 0) else d.2.2.1 i k) < 0
      by_cases q : i = n2 d
      · rw [if_pos ⟨q, h11⟩, if_neg (by omega), if_neg (by omega), if_neg (by omega)]
        decide
      · rw [if_neg (fun z => q z.1)]
        exact e i hi k h5 h11
