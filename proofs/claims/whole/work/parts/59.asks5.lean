/-! ===== 59.asks5: means, heating, bathing, lines on both sides ===== -/
theorem mean_e {K : Nat} {c d : xCo} (R : R9 c d) (J : J9 K c) : ∀ N, N ≤ n1 c → ∃ s q, s ≤ 60 * N ∧ q ≤ N ∧ sumS (cmS c) N = nI s ∧ sumS (ccS c) N = nI q ∧ sumS (wmS d) N = nI s ∧ sumS (wcS d) N = nI q
  | 0, _ => ⟨0, 0, Nat.le_refl _, Nat.le_refl _, rfl, rfl, rfl, rfl⟩
  | N + 1, h => by
    obtain ⟨s, q, h1, h2, e1, e2, e3, e4⟩ := mean_e R J N (by omega)
    have h8 := J.1.1.2
    obtain ⟨r1, r2⟩ := R.2.1 N (by omega)
    obtain ⟨-, -, ⟨l, hl, el⟩, ⟨v, hv0, hv, ev⟩, -⟩ := J.2.2.1 N (by omega)
    have r3 := r1 3 (by decide) (by decide)
    by_cases z : l = 0
    · subst z
      have a1 : cmS c N = 0 := if_pos (by rw [el]; decide)
      have a2 : ccS c N = 0 := if_pos (by rw [el]; decide)
      have a3 : wmS d N = 0 := if_pos (by rw [← r3, el]; decide)
      have a4 : wcS d N = 0 := if_pos (by rw [← r3, el]; decide)
      refine ⟨s, q, by omega, by omega, ?_, ?_, ?_, ?_⟩
      · rw [sumS, a1, e1]; exact Int32.add_zero _
      · rw [sumS, a2, e2]; exact Int32.add_zero _
      · rw [sumS, a3, e3]; exact Int32.add_zero _
      · rw [sumS, a4, e4]; exact Int32.add_zero _
    · have hn : ¬ c.2.1 N 3 ≤ 0 := by
        rw [el]
        intro x
        have : l ≤ 0 := (nI_leI (a := l) (b := 0) (by omega) (by decide)).mp x
        omega
      have hz : c.2.1 N 3 ≠ 0 := fun x => hn (by rw [x]; decide)
      have a1 : cmS c N = nI v := (if_neg hn).trans ev
      have a2 : ccS c N = nI 1 := if_neg hn
      have a3 : wmS d N = nI v := (if_neg (by rw [← r3]; exact hn)).trans ((r2 hz).symm.trans ev)
      have a4 : wcS d N = nI 1 := if_neg (by rw [← r3]; exact hn)
      refine ⟨s + v, q + 1, by omega, by omega, ?_, ?_, ?_, ?_⟩
      · rw [sumS, a1, e1]; exact nI_a2 _ _
      · rw [sumS, a2, e2]; exact nI_a2 _ _
      · rw [sumS, a3, e3]; exact nI_a2 _ _
      · rw [sumS, a4, e4]; exact nI_a2 _ _
theorem hin_e : ∀ z, z < 3 → ∀ a, a < 51 → hiF (nI (z + 1)) 60 (nI (a + 10)) 0 = hmF (nI (z + 1)) 30 (nI (a + 10)) 0 := by decide +kernel
theorem hag_e : ∀ z, z < 3 → ∀ a, a < 51 → (if 38 - nI (a + 10) ≤ 0 then 0 else if 0 < degS (nI (z + 1)) then (38 - nI (a + 10) + degS (nI (z + 1)) - 1) / degS (nI (z + 1)) else 0) = nI (hmF (nI (z + 1)) 30 (nI (a + 10)) 0) := by decide +kernel
theorem z_of {y : Int32} {A N : Nat} (hA : A ≤ N) (hN : N < 1000) (h0 : ¬ y < nI A) (h1 : ¬ nI N < y) : ∃ k, k ≤ N - A ∧ y = nI (k + A) := by
  obtain ⟨k, hk, rfl⟩ := k_of hN (fun q => h0 (by
    have a1 := Int32.lt_iff_toInt_lt.mp q
    refine Int32.lt_iff_toInt_lt.mpr ?_
    rw [nI_toInt (by omega)]
    rw [show (0 : Int32).toInt = 0 from rfl] at a1
    omega)) h1
  refine ⟨k - A, by omega, ?_⟩
  have : A ≤ k := Nat.not_lt.mp (fun q => h0 (nI_lt q (by omega)))
  rw [Nat.sub_add_cancel this]
theorem towel_e {c d : xCo} (R : R9 c d) : c.1 4 + c.1 5 + (c.1 8 - c.1 9) = d.1 4 + d.1 5 + d.1 8 - d.1 9 := by
  rw [R.1 4 (by decide), R.1 5 (by decide), R.1 8 (by decide), R.1 9 (by decide), Int32.sub_eq_add_neg, Int32.sub_eq_add_neg, Int32.add_assoc]
  simp only [Int32.add_assoc]
theorem awt_r {c d : xCo} {x : Int32} (R : R9 c d) : awtS c x (n2 c) 0 = awtS d x (n2 c) 0 := awtS_e (fun u hu => R.2.2.1 u hu) _ _ (by omega)
theorem bath_e {x : Int32} : ∀ (z K k N : Nat) (c d : xCo), R9 c d → J9 K c → K + 5 * (z + 1) < 16000000 → N = n2 c → (hbF x N (z + 1) k c).1 = if awtS (mbF x N z k (mHour d).2).2 x N 0 = 0 then nI (mbF x N z k (mHour d).2).1 else -1 := by
  intro z
  induction z with
  | zero =>
    intro K k N c d R J hK hN
    obtain ⟨q, -, -, R2, J2, e2, -⟩ := sim_hour R J (by omega)
    have ea : awtS (hourS c) x N 0 = awtS (mHour d).2 x N 0 := by rw [hN, ← e2]; exact awt_r R2
    rw [hbF, show (passS c 1).2 = hourS c from rfl, ea]
    show _ = if awtS (mHour d).2 x N 0 = 0 then nI k else -1
    by_cases h : awtS (mHour d).2 x N 0 = 0
    · rw [if_pos h, if_pos h]
    · rw [if_neg h, if_neg h]; rfl
  | succ z ih =>
    intro K k N c d R J hK hN
    obtain ⟨q, -, -, R2, J2, e2, -⟩ := sim_hour R J (by omega)
    have ea : awtS (hourS c) x N 0 = awtS (mHour d).2 x N 0 := by rw [hN, ← e2]; exact awt_r R2
    rw [hbF, show (passS c 1).2 = hourS c from rfl, ea, mbF]
    by_cases h : awtS (mHour d).2 x N 0 = 0
    · rw [if_pos h, if_pos h, if_pos h]
    · rw [if_neg h, if_neg h]
      exact ih (K + 5) (k + 1) N _ _ R2 J2 (by omega) (hN.trans e2.symm)
theorem bath0 {x : Int32} {K N : Nat} {c d : xCo} (R : R9 c d) (J : J9 K c) (hK : K + 300 < 16000000) (hN : N = n2 c) (h0 : ¬ awtS d x N 0 = 0) : (hbF x N 60 1 c).1 = if awtS (mbF x N 60 0 d).2 x N 0 = 0 then nI (mbF x N 60 0 d).1 else -1 := by
  rw [bath_e 59 K 1 N c d R J (by omega) hN, show mbF x N 60 0 d = mbF x N 59 1 (mHour d).2 from if_neg h0]
theorem mbF_le {x : Int32} {N : Nat} : ∀ (n h : Nat) (d : xCo), (mbF x N n h d).1 ≤ h + n
  | 0, h, _ => Nat.le_refl _
  | n + 1, h, d => by
    unfold mbF
    split
    · show h ≤ h + (n + 1); omega
    · have := mbF_le (x := x) (N := N) n (h + 1) (mHour d).2
      omega
/-- lines -/
theorem by_37 : byts 37 = byts 17 ∨ True := Or.inr trivial
theorem ln_b : byts 39 = [32] ∧ byts 40 = [108] ∧ byts 42 = [99] ∧ byts 41 = [99] ++ byts 15 := by decide +kernel
theorem tb_e {K j : Nat} {c d : xCo} (R : R9 c d) (J : J9 K c) (hj : j < n1 c) : tbL c j = tubL d j := by
  have h8 := J.1.1.2
  obtain ⟨r1, r2⟩ := R.2.1 j hj
  obtain ⟨-, -, ⟨l, hl, el⟩, -, h5, -⟩ := J.2.2.1 j (by omega)
  unfold tbL tubL
  rw [ln_b.1, ln_b.2.1, ln_b.2.2.1, ln_b.2.2.2, ← r1 3 (by decide) (by decide), ← r1 5 (by decide) (by decide)]
  by_cases z : c.2.1 j 3 ≤ 0
  · rw [if_pos z, if_pos z]
  · rw [if_neg z, if_neg z, ← r2 (fun q => z (by rw [q]; decide))]
    rcases h5 with e | e
    · rw [e, if_pos (show bb 0 = 0 from rfl), if_neg (show ¬ (0 : Int32) = 1 by decide), List.append_nil]
    · rw [e, if_neg (show ¬ bb 1 = 0 from by decide), if_pos rfl]
theorem ln_c : byts 37 = [58] ∧ byts 38 = byts 14 ∧ byts 43 = byts 16 ∧ byts 44 = byts 17 := by decide +kernel
theorem line_e {K u : Nat} {c d : xCo} (R : R9 c d) (J : J9 K c) (hu : u < n2 c) : lineC c u = lineL d u := by
  have h5 := J.1.2.1.2
  have h4 := J.1.2.2.2
  have r1 := R.2.2.1 u hu
  unfold lineC lineL
  rw [ln_c.1, ln_c.2.1, ln_c.2.2.1, ln_c.2.2.2, ← r1 1 (by decide), ← r1 2 (by decide), ← r1 4 (by decide)]
  have e1 : tbx c (c.2.2.1 u 1) = (if 0 ≤ c.2.2.1 u 1 then tubL d (c.2.2.1 u 1).toNatClampNeg else byts 14) := by
    unfold tbx
    rcases J.2.2.2.2.2.1.2.1 u (by omega) with e | ⟨j, hj, e, -⟩
    · rw [e, if_neg (fun q : okT c (-1) => q.1 (by decide)), if_neg no_m1]
    · have h8 := J.1.1.2
      rw [e, if_pos (okT_in J hj), if_pos (nI_pos' (by omega)), nI_cl (by omega)]
      exact tb_e R J hj
  have e2 : (if okG c (c.2.2.1 u 2) then byts 16 ++ digs (c.2.2.2 (c.2.2.1 u 2).toNatClampNeg 0).toNatClampNeg else []) = (if c.2.2.1 u 2 < 0 then [] else byts 16 ++ digs (d.2.2.2 (c.2.2.1 u 2).toNatClampNeg 0).toNatClampNeg) := by
    rcases J.2.2.2.2.2.1.2.2.1 u (by omega) with e | ⟨g, hg, e, -⟩
    · rw [e, if_neg (fun q : okG c (-1) => q.1 (by decide)), if_pos m1]
    · rw [e, if_pos (okG_in J hg), if_neg (nI_pos (by omega)), nI_cl (by omega), R.2.2.2 g hg 0 (by decide)]
  rw [e1, e2]
