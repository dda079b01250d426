/-! ===== 58.asks4: refusals stay as they are; what both sides tell, told the same ===== -/
def KR (c e : xCo) : Prop := e.1 10 = c.1 10 ∧ e.1 11 = c.1 11
theorem kr_addTubS {c : xCo} {z : Int32} : (addTubS c z).1 ≠ -1 → KR c (addTubS c z).2 := by
  unfold addTubS
  repeat' split
  all_goals first | exact fun _ => ⟨rfl, rfl⟩ | exact fun h => absurd rfl h
theorem kr_addTentS {c : xCo} {z : Int32} : (addTentS c z).1 ≠ -1 → KR c (addTentS c z).2 := by
  unfold addTentS
  repeat' split
  all_goals first | exact fun _ => ⟨rfl, rfl⟩ | exact fun h => absurd rfl h
theorem kr_tearS {c : xCo} {t s : Int32} : (tearS c t s).1 ≠ -1 → KR c (tearS c t s).2 := by
  unfold tearS
  repeat' split
  all_goals first | exact fun _ => ⟨rfl, rfl⟩ | exact fun h => absurd rfl h
theorem kr_mendS {c : xCo} {t s : Int32} : (mendS c t s).1 ≠ -1 → KR c (mendS c t s).2 := by
  unfold mendS
  repeat' split
  all_goals first | exact fun _ => ⟨rfl, rfl⟩ | exact fun h => absurd rfl h
theorem kr_outS {c : xCo} {t s : Int32} : (outS c t s).1 ≠ -1 → KR c (outS c t s).2 := by
  unfold outS
  repeat' split
  all_goals first | exact fun _ => ⟨rfl, rfl⟩ | exact fun h => absurd rfl h
theorem kr_backS {c : xCo} {t : Int32} : (backS c t).1 ≠ -1 → KR c (backS c t).2 := by
  unfold backS
  repeat' split
  all_goals first | exact fun _ => ⟨rfl, rfl⟩ | exact fun h => absurd rfl h
theorem kr_joinS {c : xCo} {t : Int32} : (joinS c t).1 ≠ -1 → KR c (joinS c t).2 := by
  unfold joinS
  repeat' split
  all_goals first | exact fun _ => ⟨rfl, rfl⟩ | exact fun h => absurd rfl h
theorem kr_heatPS {c : xCo} {t s : Int32} : (heatPS c t s).1 ≠ -1 → KR c (heatPS c t s).2 := by
  unfold heatPS
  repeat' split
  all_goals first | exact fun _ => ⟨rfl, rfl⟩ | exact fun h => absurd rfl h
theorem kr_coldS {c : xCo} {t : Int32} : (coldS c t).1 ≠ -1 → KR c (coldS c t).2 := by
  unfold coldS
  repeat' split
  all_goals first | exact fun _ => ⟨rfl, rfl⟩ | exact fun h => absurd rfl h
theorem kr_gasS {c : xCo} {t s : Int32} : (gasS c t s).1 ≠ -1 → KR c (gasS c t s).2 := by
  unfold gasS
  repeat' split
  all_goals first | exact fun _ => ⟨rfl, rfl⟩ | exact fun h => absurd rfl h
theorem kr_washS {c : xCo} {t : Int32} : (washS c t).1 ≠ -1 → KR c (washS c t).2 := by
  unfold washS
  repeat' split
  all_goals first | exact fun _ => ⟨rfl, rfl⟩ | exact fun h => absurd rfl h
theorem kr_soapS {c : xCo} {t : Int32} : (soapS c t).1 ≠ -1 → KR c (soapS c t).2 := by
  unfold soapS
  repeat' split
  all_goals first | exact fun _ => ⟨rfl, rfl⟩ | exact fun h => absurd rfl h
theorem kr_addHeaterS {c : xCo} : (addHeaterS c).1 ≠ -1 → KR c (addHeaterS c).2 := by
  unfold addHeaterS
  repeat' split
  all_goals first | exact fun _ => ⟨rfl, rfl⟩ | exact fun h => absurd rfl h
theorem cc_bathe {c : xCo} {u j k : Nat} (h : 9 < k) : (batheS c u j).1 k = c.1 k := by
  unfold batheS
  rw [show ∀ q : xCo, (bthD (bthC (bthB q u) j) u j).1 = q.1 from fun q => by unfold bthD; split <;> rfl]
  exact (upd_o (by omega)).trans ((upd_o (by omega)).trans ((upd_o (by omega)).trans (upd_o (by omega))))
theorem cc_tail {c : xCo} {u j : Nat} : (tailS c u j).1 = c.1 := by
  unfold tailS
  split
  · rfl
  · split
    · exact burnS_1.1
    · exact burnS_1.1
theorem cc_h2 {c : xCo} {u j k : Nat} (h : 9 < k) : (hour2S c u j).1 k = c.1 k := by
  unfold hour2S
  split
  · split
    · split
      · exact congrFun cc_tail k
      · split
        · exact congrFun cc_tail k
        · split
          · exact congrFun cc_tail k
          · exact cc_bathe h
    · rfl
  · split <;> rfl
theorem cc_hrsT {k : Nat} (h : 9 < k) : ∀ (n i : Nat) (c : xCo), (hrsT n i c).1 k = c.1 k
  | 0, _, _ => rfl
  | n + 1, i, c => by
    show (hrsT n (i + 1) (hourInS c i)).1 k = c.1 k
    rw [cc_hrsT h n]
    unfold hourInS
    split
    · rw [cc_h2 h]
    · rfl
theorem cc_hours {k : Nat} (h : 9 < k) : ∀ (n : Nat) (c : xCo), (hoursS n c).1 k = c.1 k
  | 0, _ => rfl
  | n + 1, c => by
    show (hoursS n (hourS c)).1 k = c.1 k
    rw [cc_hours h n]
    unfold hourS
    rw [cc_hrsT h]
    exact upd_o (by omega)
theorem kr_passS {c : xCo} {t : Int32} : KR c (passS c t).2 := by
  unfold passS
  split
  · exact ⟨rfl, rfl⟩
  · split
    · exact ⟨cc_hours (by decide) _ _, cc_hours (by decide) _ _⟩
    · exact ⟨rfl, rfl⟩
theorem kr_mTub {d : xCo} {z : Int32} : (mTub d z).1 = 0 → KR d (mTub d z).2.2 := by
  unfold mTub
  repeat' split
  all_goals first | exact fun _ => ⟨rfl, rfl⟩ | exact fun (h : (-1 : Int32) = 0) => absurd h (by decide)
theorem kr_mTent {d : xCo} {z : Int32} : (mTent d z).1 = 0 → KR d (mTent d z).2.2 := by
  unfold mTent
  repeat' split
  all_goals first | exact fun _ => ⟨rfl, rfl⟩ | exact fun (h : (-1 : Int32) = 0) => absurd h (by decide)
theorem kr_mTear {d : xCo} {t s : Int32} : (mTear d t s).1 = 0 → KR d (mTear d t s).2.2 := by
  unfold mTear
  repeat' split
  all_goals first | exact fun _ => ⟨rfl, rfl⟩ | exact fun (h : (-1 : Int32) = 0) => absurd h (by decide)
theorem kr_mMend {d : xCo} {t s : Int32} : (mMend d t s).1 = 0 → KR d (mMend d t s).2.2 := by
  unfold mMend
  repeat' split
  all_goals first | exact fun _ => ⟨rfl, rfl⟩ | exact fun (h : (-1 : Int32) = 0) => absurd h (by decide)
theorem kr_mOut {d : xCo} {t s : Int32} : (mOut d t s).1 = 0 → KR d (mOut d t s).2.2 := by
  unfold mOut
  repeat' split
  all_goals first | exact fun _ => ⟨rfl, rfl⟩ | exact fun (h : (-1 : Int32) = 0) => absurd h (by decide)
theorem kr_mBack {d : xCo} {t : Int32} : (mBack d t).1 = 0 → KR d (mBack d t).2.2 := by
  unfold mBack
  repeat' split
  all_goals first | exact fun _ => ⟨rfl, rfl⟩ | exact fun (h : (-1 : Int32) = 0) => absurd h (by decide)
theorem kr_mJoin {d : xCo} {t : Int32} : (mJoin d t).1 = 0 → KR d (mJoin d t).2.2 := by
  unfold mJoin
  repeat' split
  all_goals first | exact fun _ => ⟨rfl, rfl⟩ | exact fun (h : (-1 : Int32) = 0) => absurd h (by decide)
theorem kr_mHeat {d : xCo} {t s : Int32} : (mHeat d t s).1 = 0 → KR d (mHeat d t s).2.2 := by
  unfold mHeat
  repeat' split
  all_goals first | exact fun _ => ⟨rfl, rfl⟩ | exact fun (h : (-1 : Int32) = 0) => absurd h (by decide)
theorem kr_mCold {d : xCo} {t : Int32} : (mCold d t).1 = 0 → KR d (mCold d t).2.2 := by
  unfold mCold
  repeat' split
  all_goals first | exact fun _ => ⟨rfl, rfl⟩ | exact fun (h : (-1 : Int32) = 0) => absurd h (by decide)
theorem kr_mGas {d : xCo} {t s : Int32} : (mGas d t s).1 = 0 → KR d (mGas d t s).2.2 := by
  unfold mGas
  repeat' split
  all_goals first | exact fun _ => ⟨rfl, rfl⟩ | exact fun (h : (-1 : Int32) = 0) => absurd h (by decide)
theorem kr_mWash {d : xCo} {t : Int32} : (mWash d t).1 = 0 → KR d (mWash d t).2.2 := by
  unfold mWash
  repeat' split
  all_goals first | exact fun _ => ⟨rfl, rfl⟩ | exact fun (h : (-1 : Int32) = 0) => absurd h (by decide)
theorem kr_mSoap {d : xCo} {t : Int32} : (mSoap d t).1 = 0 → KR d (mSoap d t).2.2 := by
  unfold mSoap
  repeat' split
  all_goals first | exact fun _ => ⟨rfl, rfl⟩ | exact fun (h : (-1 : Int32) = 0) => absurd h (by decide)
theorem kr_mHeater {d : xCo} : (mHeater d).1 = 0 → KR d (mHeater d).2.2 := by
  unfold mHeater
  repeat' split
  all_goals first | exact fun _ => ⟨rfl, rfl⟩ | exact fun (h : (-1 : Int32) = 0) => absurd h (by decide)
theorem cnt_pF {k : Nat} (h : 9 < k) : ∀ (n : Nat) (a : Int32) (d : xCo), (mpF n a d).2.1 k = d.1 k
  | 0, _, _ => rfl
  | n + 1, a, d => by
    unfold mpF
    rw [cnt_pF h n]
    exact cnt_Hour (Or.inr h) (by omega)
theorem kr_mPass {d : xCo} {t : Int32} : KR d (mPass d t).2.2 := by
  unfold mPass
  split
  · exact ⟨rfl, rfl⟩
  · exact ⟨cnt_pF (by decide) _ _ _, cnt_pF (by decide) _ _ _⟩
theorem kr_ocS {c : xCo} {m : Nat} {t s : Int32} : (ocS m t s c).1 ≠ -1 → KR c (ocS m t s c).2 := by
  unfold ocS
  split
  · exact kr_outS
  split
  · exact kr_backS
  split
  · exact kr_heatPS
  split
  · exact kr_coldS
  split
  · exact kr_joinS
  split
  · exact kr_mendS
  split
  · exact kr_washS
  split
  · exact kr_soapS
  · exact fun _ => kr_passS
theorem kr_mDo {d : xCo} {m : Nat} {t s : Int32} : (mDo d m t s).1 = 0 → KR d (mDo d m t s).2.2 := by
  unfold mDo
  split
  · exact kr_mOut
  split
  · exact kr_mBack
  split
  · exact kr_mHeat
  split
  · exact kr_mCold
  split
  · exact kr_mJoin
  split
  · exact kr_mMend
  split
  · exact kr_mWash
  split
  · exact kr_mSoap
  · exact fun _ => kr_mPass
theorem sb2_toInt {a b : Nat} (ha : a < 1000000000) (hb : b < 1000000000) : (nI a - nI b).toInt = (a : Int) - b := by
  rw [Int32.toInt_sub, nI_toInt (by omega), nI_toInt (by omega), Int.bmod_eq_of_le (by omega) (by omega)]
theorem sub1_toInt (m : Nat) (h : m ≤ 6) : (nI m - 1).toInt = (m : Int) - 1 := sb2_toInt (a := m) (b := 1) (by omega) (by decide)
theorem nI_nlt' {a b : Nat} (ha : a < 1000000000) (hb : b < 1000000000) (h : nI b < nI a) : b < a := by
  have := Int32.lt_iff_toInt_lt.mp h
  rw [nI_toInt (by omega), nI_toInt (by omega)] at this
  omega
theorem k_of {y : Int32} {N : Nat} (hN : N < 1000) (h0 : ¬ y < 0) (h1 : ¬ nI N < y) : ∃ k, k ≤ N ∧ y = nI k := by
  obtain ⟨k, hk, e⟩ := ixOf (x := y) (n := N + 1) (by omega) h0 (fun q => by
    have a1 := Int32.le_iff_toInt_le.mp q
    have a2 := Int32.le_iff_toInt_le.mp (Int32.not_lt.mp h1)
    rw [nI_toInt (by omega)] at a1 a2
    omega)
  exact ⟨k, by omega, e⟩
theorem sum_h {K : Nat} {c d : xCo} {x : Int32} {N : Nat} (R : R9 c d) (J : J9 K c) (hN : N ≤ n1 c) : sumS (fun k => if x = 2 then (if c.2.1 k 1 < 0 then 0 else 1) else if x = 3 then bcS (c.2.1 k 2) else c.2.1 k 3) N = sumS (fun k => if x = 2 then (if 0 ≤ c.2.1 k 1 then 1 else 0) else if x = 3 then tmS (c.2.1 k 2) 8 else c.2.1 k 3) N := by
  refine sumS_e N fun k hk => ?_
  have h8 := J.1.1.2
  by_cases h2 : x = 2
  · simp only [if_pos h2]
    by_cases h : c.2.1 k 1 < 0
    · rw [if_pos h, if_neg (Int32.not_le.mpr h)]
    · rw [if_neg h, if_pos (Int32.not_lt.mp h)]
  · simp only [if_neg h2]
    by_cases h3 : x = 3
    · simp only [if_pos h3]
      obtain ⟨b, hb, e⟩ := (J.2.2.1 k (by omega)).2.1
      rw [e]
      exact (bc_tm b hb).1
    · simp only [if_neg h3]
theorem told_e {K k : Nat} {c d : xCo} {o : Nat → Int32} (R : R9 c d) (J : J9 K c) (hk : k < 15) : stToldS c (nI k) = mNum d o (nI k) := by
  have a8 := J.1.1
  have a5 := J.1.2.1
  have a4 := J.1.2.2
  have e1 : (c.1 1).toNatClampNeg = (d.1 1).toNatClampNeg := by rw [R.1 1 (by decide)]
  have e2 : (c.1 2).toNatClampNeg = (d.1 2).toNatClampNeg := by rw [R.1 2 (by decide)]
  have e3 : (c.1 3).toNatClampNeg = (d.1 3).toNatClampNeg := by rw [R.1 3 (by decide)]
  have sv : ∀ y : Int32, sumS (fun k => if y = 2 then (if c.2.1 k 1 < 0 then 0 else 1) else if y = 3 then bcS (c.2.1 k 2) else c.2.1 k 3) (c.1 1).toNatClampNeg = sumS (fun k => if y = 2 then (if 0 ≤ d.2.1 k 1 then 1 else 0) else if y = 3 then tmS (d.2.1 k 2) 8 else d.2.1 k 3) (d.1 1).toNatClampNeg := fun y => by
    refine (sum_h (x := y) R J (Nat.le_refl _)).trans ?_
    rw [← e1]
    refine sumS_e (n1 c) fun k hk => ?_
    have hk' : k < n1 c := hk
    rw [(R.2.1 k hk').1 1 (by decide) (by decide), (R.2.1 k hk').1 2 (by decide) (by decide), (R.2.1 k hk').1 3 (by decide) (by decide)]
  have i2 : sumS (ovS d 2) (d.1 1).toNatClampNeg = sumS (fun k => if (2 : Int32) = 2 then (if 0 ≤ d.2.1 k 1 then 1 else 0) else if (2 : Int32) = 3 then tmS (d.2.1 k 2) 8 else d.2.1 k 3) (d.1 1).toNatClampNeg := rfl
  have i3 : sumS (ovS d 3) (d.1 1).toNatClampNeg = sumS (fun k => if (3 : Int32) = 2 then (if 0 ≤ d.2.1 k 1 then 1 else 0) else if (3 : Int32) = 3 then tmS (d.2.1 k 2) 8 else d.2.1 k 3) (d.1 1).toNatClampNeg := rfl
  have i14 : sumS (ovS d 14) (d.1 1).toNatClampNeg = sumS (fun k => if (14 : Int32) = 2 then (if 0 ≤ d.2.1 k 1 then 1 else 0) else if (14 : Int32) = 3 then tmS (d.2.1 k 2) 8 else d.2.1 k 3) (d.1 1).toNatClampNeg := rfl
  have hg : sumS (fun k => c.2.2.2 k 0) (c.1 3).toNatClampNeg = sumS (fun k => d.2.2.2 k 0) (d.1 3).toNatClampNeg := by
    rw [← e3]
    exact sumS_e _ fun k hk => R.2.2.2 k hk 0 (by decide)
  have hw : sumS (fun k => c.2.2.1 k 4) (c.1 2).toNatClampNeg = sumS (fun k => d.2.2.1 k 4) (d.1 2).toNatClampNeg := by
    rw [← e2]
    exact sumS_e _ fun k hk => R.2.2.1 k hk 4 (by decide)
  match k, hk with
  | 0, _ => exact R.1 0 (by decide)
  | 1, _ => exact R.1 1 (by decide)
  | 2, _ => exact (sv 2).trans i2.symm
  | 3, _ => exact (sv 3).trans i3.symm
  | 4, _ => exact R.1 2 (by decide)
  | 5, _ => exact R.1 3 (by decide)
  | 6, _ => exact hg
  | 7, _ => exact R.1 4 (by decide)
  | 8, _ => exact R.1 5 (by decide)
  | 9, _ => exact hw
  | 10, _ => exact R.1 8 (by decide)
  | 11, _ => exact R.1 9 (by decide)
  | 12, _ => exact R.1 6 (by decide)
  | 13, _ => exact R.1 7 (by decide)
  | 14, _ => exact (sv 14).trans i14.symm
  | n + 15, h => omega
theorem bb_01 {x : Int32} (h : x = 0 ∨ x = 1) : bb x = x := by
  rcases h with rfl | rfl
  · rfl
  · rfl
/-- what a tub tells -/
theorem tub_e {K j k : Nat} {c d : xCo} (R : R9 c d) (J : J9 K c) (hj : j < n1 c) (hk : k < 7) : tldS (c.2.1 j) (nI k) = if (nI k) = 4 then (if d.2.1 j 3 = 0 then 0 else d.2.1 j 4) else d.2.1 j k := by
  have h8 := J.1.1.2
  obtain ⟨l, hl, el⟩ := (J.2.2.1 j (by omega)).2.2.1
  have h5 := (J.2.2.1 j (by omega)).2.2.2.2.1
  obtain ⟨r1, r2⟩ := R.2.1 j hj
  have hw : (if c.2.1 j 3 ≤ 0 then 0 else c.2.1 j 4) = (if d.2.1 j 3 = 0 then 0 else d.2.1 j 4) := by
    rw [← r1 3 (by decide) (by decide)]
    by_cases z : c.2.1 j 3 = 0
    · rw [if_pos z, if_pos (by rw [z]; decide)]
    · rw [if_neg z, if_neg, r2 z]
      intro q
      rw [el] at q z
      have : l ≤ 0 := (nI_leI (a := l) (b := 0) (by omega) (by decide)).mp q
      exact z (by rw [show l = 0 by omega]; rfl)
  match k, hk with
  | 0, _ => exact r1 0 (by decide) (by decide)
  | 1, _ => exact r1 1 (by decide) (by decide)
  | 2, _ => exact r1 2 (by decide) (by decide)
  | 3, _ => exact r1 3 (by decide) (by decide)
  | 4, _ => exact hw
  | 5, _ => exact (bb_01 h5).trans (r1 5 (by decide) (by decide))
  | 6, _ => exact r1 6 (by decide) (by decide)
  | n + 7, h => omega
/-- what a tent tells -/
theorem tnt_e {j k : Nat} {c d : xCo} (R : R9 c d) (hj : j < n2 c) (hk : k < 5) : tltS (c.2.2.1 j) (nI k) = if (nI k) = 3 then d.2.2.1 j 4 else if (nI k) = 4 then d.2.2.1 j 3 else d.2.2.1 j k := by
  have r1 := R.2.2.1 j hj
  match k, hk with
  | 0, _ => exact r1 0 (by decide)
  | 1, _ => exact r1 1 (by decide)
  | 2, _ => exact r1 2 (by decide)
  | 3, _ => exact r1 4 (by decide)
  | 4, _ => exact r1 3 (by decide)
  | n + 5, h => omega
/-- who waits at a place -/
theorem gst_e {K j : Nat} {c d : xCo} {p : Int32} (R : R9 c d) (J : J9 K c) (U : UD d) (hj : j < n2 c) : (if 0 ≤ gAtS (c.2.2.1 j) p then some (gAtS (c.2.2.1 j) p) else none) = (if p < 0 ∨ d.2.2.1 j 4 - 1 < p then none else some (d.2.2.1 j (5 + p.toNatClampNeg))) := by
  have h5 := J.1.2.1.2
  obtain ⟨m, hm, em⟩ := (J.2.2.2.1 j (by omega)).2
  have r1 := R.2.2.1 j hj
  rw [gAt_e r1, ← r1 4 (by decide), em]
  unfold gAtS
  rw [← r1 4 (by decide), em]
  by_cases h0 : p < 0
  · rw [if_pos (Or.inl h0), if_pos (Or.inl h0), if_neg no_m1]
  · have h1 : (nI m ≤ p) ↔ nI m - 1 < p := by
      rw [Int32.le_iff_toInt_le, Int32.lt_iff_toInt_lt, nI_toInt (by omega)]
      have : (nI m - 1).toInt = (m : Int) - 1 := by
        have := sub1_toInt m hm
        exact this
      rw [this]
      omega
    by_cases h2 : nI m ≤ p
    · rw [if_pos (Or.inr (Or.inl h2)), if_pos (Or.inr (h1.mp h2)), if_neg no_m1]
    · have h6 : ¬ (6 : Int32) ≤ p := fun q => h2 (by
        have a1 := Int32.le_iff_toInt_le.mp q
        refine Int32.le_iff_toInt_le.mpr ?_
        rw [nI_toInt (by omega)]
        rw [show (6 : Int32).toInt = 6 from rfl] at a1
        omega)
      rw [if_neg (show ¬ (p < 0 ∨ nI m ≤ p ∨ 6 ≤ p) from fun q => q.elim h0 (fun q => q.elim h2 h6)), if_neg (show ¬ (p < 0 ∨ nI m - 1 < p) from fun q => q.elim h0 (fun q => h2 (h1.mpr q)))]
      obtain ⟨i, hi, rfl⟩ := ixOf (n := m) (by omega) h0 h2
      rw [nI_cl (by omega), if_pos]
      exact Int32.not_lt.mp (U.2.2.2.2 j (by omega) (5 + i) (by omega) (by omega))
/-- the best tub -/
theorem best_e {K : Nat} {c d : xCo} (R : R9 c d) (J : J9 K c) (hK : K < 16000000) : ∀ N, N ≤ n1 c → bestF c N = bbF d N
  | 0, _ => rfl
  | N + 1, h => by
    have ih := best_e R J hK N (by omega)
    have h8 := J.1.1.2
    unfold bestF bbF
    rw [ih]
    unfold bstep bbs
    obtain ⟨r1, -⟩ := R.2.1 N (by omega)
    rw [← r1 1 (by decide) (by decide), ← r1 2 (by decide) (by decide)]
    by_cases q1 : 0 ≤ c.2.1 N 1
    · rw [if_pos q1, if_pos q1]
    · rw [if_neg q1, if_neg q1]
      by_cases q2 : c.2.1 N 2 = 0
      · rw [if_pos q2, if_pos q2]
        cases hb : bbF d N with
        | none => rfl
        | some k =>
          have hk := bbF_lt N k hb
          obtain ⟨s1, -⟩ := R.2.1 k (by omega)
          show (if btrS (c.2.1 N) (c.2.1 k) = 0 then some k else some N) = (if (if d.2.1 N 0 - d.2.1 k 0 = 0 then d.2.1 k 6 - d.2.1 N 6 else d.2.1 N 0 - d.2.1 k 0) ≤ 0 then some k else some N)
          rw [← r1 0 (by decide) (by decide), ← r1 6 (by decide) (by decide), ← s1 0 (by decide) (by decide), ← s1 6 (by decide) (by decide)]
          obtain ⟨⟨a, ha, ea⟩, -, -, -, -, ⟨p, hp, ep⟩, -⟩ := J.2.2.1 N (by omega)
          obtain ⟨⟨b, hb2, eb⟩, -, -, -, -, ⟨q, hq, eq⟩, -⟩ := J.2.2.1 k (by omega)
          unfold btrS
          rw [ea, eb, ep, eq]
          by_cases e : a = b
          · subst e
            rw [if_neg (show ¬ nI a < nI a from Int32.lt_irrefl), if_pos rfl, if_pos (show nI a - nI a = 0 from Int32.sub_self _)]
            by_cases e2 : q ≤ p
            · rw [if_pos ((nI_leI (by omega) (by omega)).mpr e2), if_pos rfl, if_pos]
              rw [Int32.le_iff_toInt_le, sb2_toInt (by omega) (by omega)]
              show (q : Int) - p ≤ 0
              omega
            · rw [if_neg (fun z => e2 ((nI_leI (by omega) (by omega)).mp z)), if_neg (by decide), if_neg]
              rw [Int32.le_iff_toInt_le, sb2_toInt (by omega) (by omega)]
              show ¬ (q : Int) - p ≤ 0
              omega
          · rw [if_neg (show ¬ nI a - nI b = 0 from fun z => by
              have := congrArg Int32.toInt z
              rw [sb2_toInt (by omega) (by omega)] at this
              have h0 : (a : Int) - b = 0 := this
              omega)]
            by_cases e2 : b < a
            · rw [if_pos (nI_lt e2 (by omega)), if_neg (by decide), if_neg]
              rw [Int32.le_iff_toInt_le, sb2_toInt (by omega) (by omega)]
              show ¬ (a : Int) - b ≤ 0
              omega
            · rw [if_neg (fun z => e2 (nI_nlt' (by omega) (by omega) z)), if_neg (show ¬ nI a = nI b from nI_ne e (by omega) (by omega)), if_pos rfl, if_pos]
              rw [Int32.le_iff_toInt_le, sb2_toInt (by omega) (by omega)]
              show (a : Int) - b ≤ 0
              omega
      · rw [if_neg q2, if_neg q2]
