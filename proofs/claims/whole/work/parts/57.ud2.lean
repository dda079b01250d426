/-! ===== 57.ud2: hours keep it; what looking ahead needs ===== -/
theorem wm_1 : ∀ w, w < 61 → mx 10 (nI w - 1) = nI (mx 10 (nI w - 1)).toNatClampNeg ∧ (mx 10 (nI w - 1)).toNatClampNeg < 61 := by decide +kernel
theorem wm_5 : ∀ w, w < 61 → mx 10 (nI w - 5) = nI (mx 10 (nI w - 5)).toNatClampNeg ∧ (mx 10 (nI w - 5)).toNatClampNeg < 61 := by decide +kernel
theorem wm_h : ∀ z, z < 4 → ∀ w, w < 61 → mn 60 (nI w + 12 / nI z) = nI (mn 60 (nI w + 12 / nI z)).toNatClampNeg ∧ (mn 60 (nI w + 12 / nI z)).toNatClampNeg < 61 := by decide +kernel
def WM (x : Int32) : Prop := ∃ a, a ≤ 60 ∧ x = nI a
theorem WM.c {x : Int32} (h : WM x) : WM (mx 10 (x - 1)) := by
  obtain ⟨w, hw, rfl⟩ := h
  obtain ⟨a, b⟩ := wm_1 w (by omega)
  exact ⟨_, by omega, a⟩
theorem WM.f {x : Int32} (h : WM x) : WM (mx 10 (x - 5)) := by
  obtain ⟨w, hw, rfl⟩ := h
  obtain ⟨a, b⟩ := wm_5 w (by omega)
  exact ⟨_, by omega, a⟩
theorem WM.h {x y : Int32} (h : WM x) (hz : ∃ z, z ≤ 3 ∧ y = nI z) : WM (mn 60 (x + 12 / y)) := by
  obtain ⟨w, hw, rfl⟩ := h
  obtain ⟨z, h3, rfl⟩ := hz
  obtain ⟨a, b⟩ := wm_h z (by omega) w (by omega)
  exact ⟨_, by omega, a⟩
theorem ud_mbA {d : xCo} {v : Int32} (U : UD d) : UD (mbA d v) ∧ n1 (mbA d v) = n1 d ∧ n2 (mbA d v) = n2 d :=
  ⟨ud_S (ud_S (ud_S (ud_S U (by decide)) (by decide)) (by decide)) (by decide), rfl, rfl⟩
theorem ud_mbB {d : xCo} {u : Nat} (U : UD d) (hu : u < n2 d) : UD (mbB d u) :=
  ud_U (ud_Sh (ud_U U hu (fun q => absurd q (by decide))) hu) hu (fun q => absurd q (by decide))
theorem ud_bthC {d : xCo} {j : Nat} (U : UD d) (hj : j < n1 d) : UD (bthC d j) :=
  ud_T (ud_T U hj (fun q => absurd q (by decide))) hj (fun q => absurd q (by decide))
theorem ud_mbD {d : xCo} {j : Nat} (U : UD d) (hj : j < n1 d) : UD (mbD d j) := by
  unfold mbD
  split
  · exact ud_T U hj (fun q => absurd q (by decide))
  · exact U
theorem ud_mBth {d : xCo} {u j : Nat} (U : UD d) (hu : u < n2 d) (hj : j < n1 d) : UD (mBth d u j) := by
  unfold mBth
  obtain ⟨a, b, c⟩ := ud_mbA (v := if d.2.1 j 4 < 45 then 3 else 4) U
  generalize mbA d (if d.2.1 j 4 < 45 then 3 else 4) = q at a b c
  exact ud_mbD (ud_bthC (ud_mbB a (by omega)) (show j < n1 q by omega)) (show j < n1 q by omega)
theorem ud_mTl {g : xCo} {u j : Nat} {wm : Int32} (U : UD g) (hj : j < n1 g) (h2 : g.2.2.1 u 2 < 0 ∨ (g.2.2.1 u 2).toNatClampNeg < n3 g) (hz : ∃ z, z ≤ 3 ∧ g.2.1 j 0 = nI z) (hw : WM wm) : UD (mTl g u j wm) := by
  have hc : UD (mCl g j wm) := ud_T U hj (fun _ => hw.c)
  unfold mTl
  by_cases a : g.2.2.1 u 2 < 0
  · rw [if_pos a]; exact hc
  · rw [if_neg a]
    have h3 := h2.resolve_left a
    split
    · exact hc
    · split
      · exact hc
      · exact ud_T (ud_G U h3) hj (fun _ => hw.h hz)
theorem ud_mH2 {g : xCo} {u j : Nat} {lt al wm : Int32} (U : UD g) (hu : u < n2 g) (hj : j < n1 g) (h2 : g.2.2.1 u 2 < 0 ∨ (g.2.2.1 u 2).toNatClampNeg < n3 g) (hz : ∃ z, z ≤ 3 ∧ g.2.1 j 0 = nI z) (hw : WM wm) : UD (mH2 g u j lt al wm).2 := by
  have ht : UD (mTl g u j wm) := ud_mTl U hj h2 hz hw
  unfold mH2
  split
  · show UD (if _ then _ else _)
    split
    · exact ud_T (ud_T U hj (fun q => absurd q (by decide))) hj (fun q => absurd q (by decide))
    · exact ud_T (ud_T U hj (fun q => absurd q (by decide))) hj (fun q => absurd q (by decide))
  · split
    · split
      · exact ht
      · split
        · exact ht
        · split
          · exact ht
          · exact ud_mBth U hu hj
    · refine ud_T (ud_T U hj (fun _ => ?_)) hj (fun q => absurd q (by decide))
      split
      · exact ⟨10, by decide, rfl⟩
      · exact hw.f
theorem ud_mHr {d : xCo} {u j : Nat} (U : UD d) (hu : u < n2 d) (hj : j < n1 d) (hj8 : j < 8) (h2 : d.2.2.1 u 2 < 0 ∨ (d.2.2.1 u 2).toNatClampNeg < n3 d) (hz : ∃ z, z ≤ 3 ∧ d.2.1 j 0 = nI z) : UD (mHr d u j).2 := by
  unfold mHr
  refine ud_mH2 (ud_T U hj (fun q => absurd q (by decide))) hu hj h2 ?_ (U.1 j hj8)
  rw [show (cT d j 3 (gtL d j)).2.1 j 0 = d.2.1 j 0 from up2_2 (by decide)]
  exact hz
/-- counts, places and sizes that hours rely on -/
def PW (d : xCo) : Prop := n1 d ≤ 8 ∧ (∀ u, u < n2 d → d.2.2.1 u 1 < 0 ∨ (d.2.2.1 u 1).toNatClampNeg < n1 d) ∧ (∀ u, u < n2 d → d.2.2.1 u 2 < 0 ∨ (d.2.2.1 u 2).toNatClampNeg < n3 d) ∧ (∀ j, j < n1 d → ∃ z, z ≤ 3 ∧ d.2.1 j 0 = nI z)
theorem PW.kp {d e : xCo} (P : PW d) (k : Kp d e) (a1 : e.1 1 = d.1 1) (a3 : e.1 3 = d.1 3) : PW e := by
  have e1 : n1 e = n1 d := congrArg Int32.toNatClampNeg a1
  have e2 : n2 e = n2 d := congrArg Int32.toNatClampNeg k.1
  have e3 : n3 e = n3 d := congrArg Int32.toNatClampNeg a3
  unfold PW
  rw [e1, e2, e3]
  refine ⟨P.1, fun u hu => ?_, fun u hu => ?_, fun j hj => ?_⟩
  · rw [k.2.1 u]; exact P.2.1 u hu
  · rw [k.2.2.1 u]; exact P.2.2.1 u hu
  · rw [k.2.2.2 j]; exact P.2.2.2 j hj
theorem cnt_Bth {d : xCo} {u j k : Nat} (h : k < 5 ∨ 9 < k) : (mBth d u j).1 k = d.1 k := by
  have hb : ∀ v, (mbA d v).1 k = d.1 k := fun v => (upd_o (by omega)).trans ((upd_o (by omega)).trans ((upd_o (by omega)).trans (upd_o (by omega))))
  unfold mBth
  rw [show ∀ q : xCo, (mbD (bthC (mbB q u) j) j).1 = q.1 from fun q => by unfold mbD; split <;> rfl]
  exact hb _
theorem cnt_H2 {g : xCo} {u j k : Nat} {lt al wm : Int32} (h : k < 5 ∨ 9 < k) : (mH2 g u j lt al wm).2.1 k = g.1 k := by
  have ht : (mTl g u j wm).1 = g.1 := by
    unfold mTl
    split
    · rfl
    · split
      · rfl
      · split
        · rfl
        · rfl
  unfold mH2
  split
  · show (if _ then (_ : xCo) else _).1 k = _
    split
    · rfl
    · rfl
  · split
    · split
      · exact congrFun ht k
      · split
        · exact congrFun ht k
        · split
          · exact congrFun ht k
          · exact cnt_Bth h
    · rfl
theorem cnt_Hr {d : xCo} {u j k : Nat} (h : k < 5 ∨ 9 < k) : (mHr d u j).2.1 k = d.1 k := by
  unfold mHr
  rw [cnt_H2 h]
theorem cnt_hF {k : Nat} (h : k < 5 ∨ 9 < k) : ∀ (n i : Nat) (a : Int32) (c : xCo), (mhF n i a c).2.1 k = c.1 k
  | 0, _, _, _ => rfl
  | n + 1, i, a, c => by
    unfold mhF
    split
    · exact cnt_hF h n _ _ _
    · rw [cnt_hF h n _ _ _]; exact cnt_Hr h
theorem cnt_Hour {d : xCo} {k : Nat} (h : k < 5 ∨ 9 < k) (h0 : k ≠ 0) : (mHour d).2.1 k = d.1 k := by
  unfold mHour
  rw [cnt_hF h]
  exact upd_o h0
theorem ud_hF : ∀ (n i : Nat) (a : Int32) (e : xCo), UD e → PW e → i + n ≤ n2 e → UD (mhF n i a e).2
  | 0, _, _, _, U, _, _ => U
  | n + 1, i, a, e, U, P, h => by
    unfold mhF
    split
    · exact ud_hF n _ _ _ U P (by omega)
    · next q =>
      have hj := (P.2.1 i (by omega)).resolve_left q
      have h8 := P.1
      have en : n2 (mHr e i (e.2.2.1 i 1).toNatClampNeg).2 = n2 e := congrArg Int32.toNatClampNeg (cnt_Hr (Or.inl (by decide)))
      exact ud_hF n _ _ _ (ud_mHr U (by omega) hj (by omega) (P.2.2.1 i (by omega)) (P.2.2.2 _ hj)) (P.kp Kp.rf.Hr (cnt_Hr (Or.inl (by decide))) (cnt_Hr (Or.inl (by decide)))) (by omega)
theorem PW.hour {d : xCo} (P : PW d) : PW (mHour d).2 := P.kp Kp.rf.Hour (cnt_Hour (Or.inl (by decide)) (by decide)) (cnt_Hour (Or.inl (by decide)) (by decide))
theorem ud_Hour {d : xCo} (U : UD d) (P : PW d) : UD (mHour d).2 := by
  unfold mHour
  refine ud_hF _ _ _ _ (ud_S U (by decide)) (P.kp (Kp.rf.S (by decide)) (show upd d.1 0 (d.1 0 + 1) 1 = d.1 1 from upd_o (by decide)) (show upd d.1 0 (d.1 0 + 1) 3 = d.1 3 from upd_o (by decide))) ?_
  show 0 + n2 d ≤ n2 (cS d 0 (d.1 0 + 1))
  rw [(n_cS (by decide)).2.1]; omega
theorem ud_pF : ∀ (n : Nat) (a : Int32) (e : xCo), UD e → PW e → UD (mpF n a e).2
  | 0, _, _, U, _ => U
  | n + 1, a, e, U, P => by
    unfold mpF
    exact ud_pF n _ _ (ud_Hour U P) P.hour
theorem pw_of {K : Nat} {c d : xCo} (R : R9 c d) (J : J9 K c) : PW d := by
  obtain ⟨e1, e2, e3⟩ := r_n R
  have a8 := J.1.1.2
  refine ⟨by omega, fun u hu => ?_, fun u hu => ?_, fun j hj => ?_⟩
  · rcases d_u1 R J hu with e | e
    · rw [e]; exact Or.inl m1
    · exact Or.inr (cl_n e (by decide))
  · rcases d_u2 R J hu with e | e
    · rw [e]; exact Or.inl m1
    · exact Or.inr (cl_n e (by decide))
  · rw [← (R.2.1 j (by omega)).1 0 (by decide) (by decide)]
    exact (J.2.2.1 j (by omega)).1
theorem ud_pass {K : Nat} {c d : xCo} {x : Int32} (R : R9 c d) (J : J9 K c) (U : UD d) : UD (mPass d x).2.2 := by
  unfold mPass
  split
  · exact U
  · exact ud_pF _ _ _ U (pw_of R J)
theorem ud_do {K m : Nat} {c d : xCo} {a b : Int32} (R : R9 c d) (J : J9 K c) (hK : K < 16000000) (U : UD d) : UD (mDo d m a b).2.2 := by
  unfold mDo
  split
  · exact ud_out R J U
  split
  · exact ud_back R J U
  split
  · exact ud_heat R J U
  split
  · exact ud_cold R J U
  split
  · exact ud_join R J hK U
  split
  · exact ud_mend R J U
  split
  · exact ud_wash U
  split
  · exact ud_soap U
  · exact ud_pass R J U
/-- guests that wait are never more than six -/
def U4 (c : xCo) : Prop := ∀ u, u < 5 → ∃ m, m ≤ 6 ∧ c.2.2.1 u 4 = nI m
theorem U4.le {c d : xCo} (H : U4 c) (h : ∀ a, a < 5 → d.2.2.1 a 4 = c.2.2.1 a 4 ∨ (¬ c.2.2.1 a 4 ≤ 0 ∧ d.2.2.1 a 4 = c.2.2.1 a 4 - 1)) : U4 d := by
  intro a ha
  rcases h a ha with e | ⟨p, e⟩
  · rw [e]; exact H a ha
  · obtain ⟨m, hm, em⟩ := H a ha
    rw [em] at p e
    have h1 : 1 ≤ m := by
      have : m ≠ 0 := fun z => by rw [z] at p; exact p (by decide)
      omega
    refine ⟨m - 1, by omega, e.trans ?_⟩
    exact pk_sub (a := m) (b := 1) h1
theorem U4.ex {c d : xCo} (H : U4 c) (h : ∀ a, d.2.2.1 a 4 = c.2.2.1 a 4) : U4 d := H.le fun a _ => Or.inl (h a)
theorem u4_Bth {g : xCo} {u j a : Nat} (h : ¬ g.2.2.1 u 4 ≤ 0) : (mBth g u j).2.2.1 a 4 = g.2.2.1 a 4 ∨ (¬ g.2.2.1 a 4 ≤ 0 ∧ (mBth g u j).2.2.1 a 4 = g.2.2.1 a 4 - 1) := by
  unfold mBth
  rw [show ∀ q : xCo, (mbD (bthC (mbB q u) j) j).2.2.1 = (mbB q u).2.2.1 from fun q => by unfold mbD; split <;> rfl]
  by_cases e : a = u
  · subst e
    refine Or.inr ⟨h, ?_⟩
    unfold mbB
    rw [cU_s, cSh_u]
    show (cU (mbA g _) a 3 _).2.2.1 a 4 - 1 = _
    rw [show ∀ x, (cU (mbA g (if g.2.1 j 4 < 45 then 3 else 4)) a 3 x).2.2.1 a 4 = g.2.2.1 a 4 from fun x => up2_2 (by decide)]
  · refine Or.inl ?_
    unfold mbB
    rw [show ∀ (q : xCo) (x : Int32), (cU q u 4 x).2.2.1 a = q.2.2.1 a from fun q x => up2_n e, cSh_o e, show ∀ (q : xCo) (x : Int32), (cU q u 3 x).2.2.1 a = q.2.2.1 a from fun q x => up2_n e]
    rfl
theorem u4_H2 {g : xCo} {u j : Nat} {lt al wm : Int32} (H : U4 g) : U4 (mH2 g u j lt al wm).2 := by
  have ht : U4 (mTl g u j wm) := by
    unfold mTl
    split
    · exact H
    · split
      · exact H
      · split
        · exact H
        · exact H
  unfold mH2
  split
  · show U4 (if _ then _ else _)
    split
    · exact H
    · exact H
  · split
    · split
      · exact ht
      · split
        · exact ht
        · next q =>
          split
          · exact ht
          · exact H.le fun a _ => u4_Bth q
    · exact H
theorem u4_hF : ∀ (n i : Nat) (a : Int32) (e : xCo), U4 e → U4 (mhF n i a e).2
  | 0, _, _, _, U => U
  | n + 1, i, a, e, U => by
    unfold mhF
    split
    · exact u4_hF n _ _ _ U
    · exact u4_hF n _ _ _ (show U4 (mHr _ _ _).2 from u4_H2 U)
theorem u4_Hour {d : xCo} (U : U4 d) : U4 (mHour d).2 := u4_hF _ _ _ _ U
theorem inv_d {c : xCo} {N : Nat} (h : inC c ∧ inH c N) : inC c ∧ inH c N ∧ inC (mHour c).2 ∧ inH (mHour c).2 N := by
  obtain ⟨⟨a, b, e, g⟩, i⟩ := h
  refine ⟨⟨a, b, e, g⟩, i, ⟨?_, ?_, ?_, u4_Hour g⟩, i.kp Kp.rf.Hour⟩
  · rw [cnt_Hour (Or.inl (by decide)) (by decide)]; exact a
  · rw [cnt_Hour (Or.inl (by decide)) (by decide)]; exact b
  · rw [cnt_Hour (Or.inl (by decide)) (by decide)]; exact e
theorem u4_tail {c : xCo} {u j : Nat} (H : U4 c) : U4 (tailS c u j) := by
  unfold tailS
  split
  · exact H
  · split
    · refine H.ex fun a => ?_
      show (burnS c _).2.2.2.1 a 4 = _
      rw [burnS_1.2.2]
    · refine H.ex fun a => ?_
      show (burnS c _).2.2.2.1 a 4 = _
      rw [burnS_1.2.2]
theorem u4_bathe {c : xCo} {u j a : Nat} (h : ¬ c.2.2.1 u 4 ≤ 0) : (batheS c u j).2.2.1 a 4 = c.2.2.1 a 4 ∨ (¬ c.2.2.1 a 4 ≤ 0 ∧ (batheS c u j).2.2.1 a 4 = c.2.2.1 a 4 - 1) := by
  unfold batheS
  rw [show ∀ q : xCo, (bthD (bthC q j) u j).2.2.1 = q.2.2.1 from fun q => by unfold bthD; split <;> rfl]
  by_cases e : a = u
  · subst e
    refine Or.inr ⟨h, ?_⟩
    unfold bthB
    rw [show ∀ (q : xCo) (x : Int32), (cU q a 3 x).2.2.1 a 4 = q.2.2.1 a 4 from fun q x => up2_2 (by decide), cU_s]
    rfl
  · refine Or.inl ?_
    unfold bthB
    rw [show ∀ (q : xCo) (x : Int32), (cU q u 3 x).2.2.1 a = q.2.2.1 a from fun q x => up2_n e, show ∀ (q : xCo) (x : Int32), (cU q u 4 x).2.2.1 a = q.2.2.1 a from fun q x => up2_n e, cSh_o e]
    rfl
theorem u4_h2 {c : xCo} {u j : Nat} (H : U4 c) : U4 (hour2S c u j) := by
  unfold hour2S
  split
  · split
    · split
      · exact u4_tail H
      · split
        · exact u4_tail H
        · next q =>
          split
          · exact u4_tail H
          · exact H.le fun a _ => u4_bathe q
    · exact H
  · first | exact H | (split <;> exact H)
theorem u4_hrsT : ∀ (n i : Nat) (c : xCo), U4 c → U4 (hrsT n i c)
  | 0, _, _, H => H
  | n + 1, i, c, H => by
    show U4 (hrsT n (i + 1) (hourInS c i))
    refine u4_hrsT n _ _ ?_
    unfold hourInS
    split
    · exact u4_h2 H
    · exact H
theorem inv_c {c : xCo} {N : Nat} (h : inC c ∧ N ≤ 5 ∧ c.1 2 = nI N) : inC c ∧ N ≤ 5 ∧ c.1 2 = nI N ∧ inC (passS c 1).2 ∧ N ≤ 5 ∧ (passS c 1).2.1 2 = nI N := by
  have e1 : (passS c 1).2 = hourS c := rfl
  rw [e1]
  obtain ⟨⟨a, b, e, g⟩, i, k⟩ := h
  refine ⟨⟨a, b, e, g⟩, i, k, ⟨?_, ?_, ?_, u4_hrsT _ _ _ g⟩, i, (hourS_1 (by decide) (by decide)).trans k⟩
  · rw [hourS_1 (by decide) (by decide)]; exact a
  · rw [hourS_1 (by decide) (by decide)]; exact b
  · rw [hourS_1 (by decide) (by decide)]; exact e
