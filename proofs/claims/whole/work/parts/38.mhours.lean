/-! ===== 38.mhours: hours in the reference (rows laid by wip/whole/gen/make38.py) ===== -/
def mbA (d : xCo) (v : Int32) : xCo := cS (cS (cS (cS d 6 (d.1 6 - 1)) 7 ((cS d 6 (d.1 6 - 1)).1 7 + v)) 5 (d.1 5 + 1)) 9 (d.1 9 + 1)
def mbB (d : xCo) (u : Nat) : xCo := cU (cSh (cU d u 3 (d.2.2.1 u 3 + 1)) u) u 4 ((cSh (cU d u 3 (d.2.2.1 u 3 + 1)) u).2.2.1 u 4 - 1)
def mbD (d : xCo) (j : Nat) : xCo := if d.2.1 j 6 - d.2.1 j 6 / 4 * 4 = 0 then cT d j 2 (d.2.1 j 2 ||| (1 : Int32) <<< ((nI j + d.2.1 j 6 - (nI j + d.2.1 j 6) / 8 * 8) &&& 31)) else d
def mBth (d : xCo) (u j : Nat) : xCo := mbD (bthC (mbB (mbA d (if d.2.1 j 4 < 45 then 3 else 4)) u) j) j
def mCl (g : xCo) (j : Nat) (wm : Int32) : xCo := cT g j 4 (mx 10 (wm - 1))
def mTl (g : xCo) (u j : Nat) (wm : Int32) : xCo := if g.2.2.1 u 2 < 0 then mCl g j wm else if g.2.2.2 (g.2.2.1 u 2).toNatClampNeg 0 ≤ 0 then mCl g j wm else if 60 ≤ wm then mCl g j wm else cT (cG g (g.2.2.1 u 2).toNatClampNeg 0 (g.2.2.2 (g.2.2.1 u 2).toNatClampNeg 0 - 1)) j 4 (mn 60 (wm + 12 / g.2.1 j 0))
def mH2 (g : xCo) (u j : Nat) (lt al wm : Int32) : Int32 × xCo := if g.2.1 j 5 = 1 then (0, if mx 0 (lt - 20 - 10 * g.2.2.1 u 0) = 0 then cT (cT g j 3 (mx 0 (lt - 20 - 10 * g.2.2.1 u 0))) j 5 0 else cT (cT g j 3 (mx 0 (lt - 20 - 10 * g.2.2.1 u 0))) j 5 1) else if al ≤ lt then (if wm < 38 then (0, mTl g u j wm) else if g.2.2.1 u 4 ≤ 0 then (0, mTl g u j wm) else if g.1 6 ≤ 0 then (0, mTl g u j wm) else (1, mBth g u j)) else (0, cT (cT g j 4 (if lt = 0 then 10 else mx 10 (wm - 5))) j 3 al)
def gtL (d : xCo) (j : Nat) : Int32 := mx 0 (d.2.1 j 3 - 5 * tmS (d.2.1 j 2) 8)
def mHr (d : xCo) (u j : Nat) : Int32 × xCo := mH2 (cT d j 3 (gtL d j)) u j (gtL d j) (100 * d.2.1 j 0) (d.2.1 j 4)
def mhF : Nat → Nat → Int32 → xCo → Int32 × xCo
  | 0, _, a, c => (a, c)
  | n + 1, i, a, c => if c.2.2.1 i 1 < 0 then mhF n (i + 1) (a + 0) c else mhF n (i + 1) (a + (mHr c i (c.2.2.1 i 1).toNatClampNeg).1) (mHr c i (c.2.2.1 i 1).toNatClampNeg).2
def mHour (d : xCo) : Int32 × xCo := mhF (d.1 2).toNatClampNeg 0 0 (cS d 0 (d.1 0 + 1))
def mpF : Nat → Int32 → xCo → Int32 × xCo
  | 0, a, c => (a, c)
  | n + 1, a, c => mpF n (a + (mHour c).1) (mHour c).2
def mPass (d : xCo) (x : Int32) : mOc := if x < 1 ∨ 48 < x then (-3, 0, d) else (0, (mpF x.toNatClampNeg 0 d).1, (mpF x.toNatClampNeg 0 d).2)
/-- what hours leave as it is -/
def Kp (d e : xCo) : Prop := e.1 2 = d.1 2 ∧ (∀ a, e.2.2.1 a 1 = d.2.2.1 a 1) ∧ (∀ a, e.2.2.1 a 2 = d.2.2.1 a 2) ∧ (∀ a, e.2.1 a 0 = d.2.1 a 0)
theorem Kp.rf {d : xCo} : Kp d d := ⟨rfl, fun _ => rfl, fun _ => rfl, fun _ => rfl⟩
theorem Kp.tr {d e f : xCo} (h : Kp d e) (g : Kp e f) : Kp d f := ⟨g.1.trans h.1, fun a => (g.2.1 a).trans (h.2.1 a), fun a => (g.2.2.1 a).trans (h.2.2.1 a), fun a => (g.2.2.2 a).trans (h.2.2.2 a)⟩
theorem Kp.S {d e : xCo} {k : Nat} {x : Int32} (h : Kp d e) (hk : 2 ≠ k) : Kp d (cS e k x) := h.tr ⟨upd_o hk, fun _ => rfl, fun _ => rfl, fun _ => rfl⟩
theorem Kp.T {d e : xCo} {j k : Nat} {x : Int32} (h : Kp d e) (hk : 0 ≠ k) : Kp d (cT e j k x) := h.tr ⟨rfl, fun _ => rfl, fun _ => rfl, fun _ => up2_2 hk⟩
theorem Kp.U {d e : xCo} {j k : Nat} {x : Int32} (h : Kp d e) (hk : 1 ≠ k) (hk2 : 2 ≠ k) : Kp d (cU e j k x) := h.tr ⟨rfl, fun _ => up2_2 hk, fun _ => up2_2 hk2, fun _ => rfl⟩
theorem Kp.G {d e : xCo} {j k : Nat} {x : Int32} (h : Kp d e) : Kp d (cG e j k x) := h.tr ⟨rfl, fun _ => rfl, fun _ => rfl, fun _ => rfl⟩
theorem Kp.Sh {d e : xCo} {u : Nat} (h : Kp d e) : Kp d (cSh e u) := by
  refine h.tr ⟨rfl, fun a => ?_, fun a => ?_, fun _ => rfl⟩
  · show (if a = u then shF (e.2.2.1 a) 5 1 else e.2.2.1 a 1) = _
    split
    · rfl
    · rfl
  · show (if a = u then shF (e.2.2.1 a) 5 2 else e.2.2.1 a 2) = _
    split
    · rfl
    · rfl
theorem Kp.Bth {d e : xCo} {u j : Nat} (h : Kp d e) : Kp d (mBth e u j) := by
  have h1 : Kp d (mbA e (if e.2.1 j 4 < 45 then 3 else 4)) := (((h.S (by decide)).S (by decide)).S (by decide)).S (by decide)
  have h2 : Kp d (mbB (mbA e (if e.2.1 j 4 < 45 then 3 else 4)) u) := ((h1.U (by decide) (by decide)).Sh).U (by decide) (by decide)
  have h3 : Kp d (bthC (mbB (mbA e (if e.2.1 j 4 < 45 then 3 else 4)) u) j) := (h2.T (by decide)).T (by decide)
  unfold mBth
  generalize bthC (mbB (mbA e (if e.2.1 j 4 < 45 then 3 else 4)) u) j = q at h3 ⊢
  unfold mbD
  split
  · exact h3.T (by decide)
  · exact h3
theorem Kp.Tl {d e : xCo} {u j : Nat} {x : Int32} (h : Kp d e) : Kp d (mTl e u j x) := by
  have hc : Kp d (mCl e j x) := h.T (by decide)
  unfold mTl
  split
  · exact hc
  · split
    · exact hc
    · split
      · exact hc
      · exact h.G.T (by decide)
theorem Kp.H2 {d e : xCo} {u j : Nat} {x y z : Int32} (h : Kp d e) : Kp d (mH2 e u j x y z).2 := by
  unfold mH2
  split
  · show Kp d (if _ then _ else _)
    split
    · exact (h.T (by decide)).T (by decide)
    · exact (h.T (by decide)).T (by decide)
  · split
    · split
      · exact h.Tl
      · split
        · exact h.Tl
        · split
          · exact h.Tl
          · exact h.Bth
    · exact (h.T (by decide)).T (by decide)
theorem Kp.Hr {d e : xCo} {u j : Nat} (h : Kp d e) : Kp d (mHr e u j).2 := (h.T (by decide)).H2
/-- tents hold tubs that have a size, and heaters that there are -/
def inH (d : xCo) (N : Nat) : Prop := N ≤ 5 ∧ d.1 2 = nI N ∧ (∀ u, u < N → 0 ≤ d.2.2.1 u 1 → ∃ j, j < 8 ∧ d.2.2.1 u 1 = nI j ∧ ¬ d.2.1 j 0 = 0) ∧ (∀ u, u < 5 → 0 ≤ d.2.2.1 u 2 → ∃ g, g < 4 ∧ d.2.2.1 u 2 = nI g)
theorem inH.kp {d e : xCo} {N : Nat} (h : inH d N) (k : Kp d e) : inH e N :=
  ⟨h.1, k.1.trans h.2.1, fun u hu h0 => by
    rw [k.2.1 u] at h0 ⊢
    obtain ⟨j, hj, e1, e2⟩ := h.2.2.1 u hu h0
    exact ⟨j, hj, e1, by rw [k.2.2.2 j]; exact e2⟩, fun u hu h0 => by
    rw [k.2.2.1 u] at h0 ⊢
    exact h.2.2.2 u hu h0⟩
theorem Kp.hF {d : xCo} : ∀ (n i : Nat) (a : Int32) (e : xCo), Kp d e → Kp d (mhF n i a e).2
  | 0, _, _, _, h => h
  | n + 1, i, a, e, h => by
    unfold mhF
    split
    · exact Kp.hF n _ _ _ h
    · exact Kp.hF n _ _ _ h.Hr
theorem Kp.Hour {d e : xCo} (h : Kp d e) : Kp d (mHour e).2 := Kp.hF _ _ _ _ (h.S (by decide))
set_option maxRecDepth 100000 in
set_option maxHeartbeats 4000000 in
theorem lp_X10_bathes {E : xE} {Po : xPo} {w0 w : xW} {m : Nat} {d : xCo} {r : mRs} {o : Nat → Int32} {t : mTx} {u j : Nat} {v : Int32} (hu : u < 5) (hj : j < 8) (n9 : Nat) : ∀ (z : Nat) (hp : Po (.inl none) (md E w m (mbD (bthC (mbB (mbA d v) u) j) j) r o t)) (hn9 : 0 < n9), WF M_X10_bathes E Po w0 35 [some (.ref m), some (.int (nI u)), some (.int (nI j)), none] [.int v, .int ((cS d 6 (d.1 6 - 1)).1 7), .int 7, .ref (m + 1)] (md E w m (cS d 6 (d.1 6 - 1)) r o t) 0 0 := by
  induction n9 with
  | zero => intro z hp hn9; exact absurd hn9 (Nat.not_lt_zero _)
  | succ n9 ih =>
    intro z hp hn9
    refine r_iadd (q := 36) dX10_bathes_35 rfl ?_
    refine r_stS (q := 37) (k := 7) dX10_bathes_36 (by decide) rfl ?_
    refine r_aload_n (q := 38) dX10_bathes_37 rfl rfl rfl ?_
    refine r_getfield (q := 41) dX10_bathes_38 f_X10_bathes_9 md_g0 rfl rfl ?_
    refine r_iconst (q := 42) (v := 5) dX10_bathes_41 rfl rfl ?_
    refine r_dup2 (q := 43) dX10_bathes_42 rfl rfl rfl ?_
    refine r_ldS (q := 44) (k := 5) dX10_bathes_43 (by decide) rfl ?_
    refine r_iconst (q := 45) (v := 1) dX10_bathes_44 rfl rfl ?_
    refine r_iadd (q := 46) dX10_bathes_45 rfl ?_
    refine r_stS (q := 47) (k := 5) dX10_bathes_46 (by decide) rfl ?_
    refine r_aload_n (q := 48) dX10_bathes_47 rfl rfl rfl ?_
    refine r_getfield (q := 51) dX10_bathes_48 f_X10_bathes_9 md_g0 rfl rfl ?_
    refine r_bipush (q := 53) (v := 9) dX10_bathes_51 (by decide) rfl ?_
    refine r_dup2 (q := 54) dX10_bathes_53 rfl rfl rfl ?_
    refine r_ldS (q := 55) (k := 9) dX10_bathes_54 (by decide) rfl ?_
    refine r_iconst (q := 56) (v := 1) dX10_bathes_55 rfl rfl ?_
    refine r_iadd (q := 57) dX10_bathes_56 rfl ?_
    refine r_stS (q := 58) (k := 9) dX10_bathes_57 (by decide) rfl ?_
    refine r_aload_n (q := 59) dX10_bathes_58 rfl rfl rfl ?_
    refine r_iload_n (q := 60) dX10_bathes_59 rfl rfl rfl ?_
    refine r_iconst (q := 61) (v := 3) dX10_bathes_60 rfl rfl ?_
    refine r_aload_n (q := 62) dX10_bathes_61 rfl rfl rfl ?_
    refine r_iload_n (q := 63) dX10_bathes_62 rfl rfl rfl ?_
    refine r_iconst (q := 64) (v := 3) dX10_bathes_63 rfl rfl ?_
    refine r_callV (q := 67) (ci := 12) (As := [_, _]) dX10_bathes_64 s_X10_bathes_134 md_g0 rfl rfl rfl (Nat.le_of_ble_eq_true rfl) rfl rfl rfl (Nat.le_of_ble_eq_true rfl) (Nat.le_of_ble_eq_true rfl) ⟨(Nat.le_of_ble_eq_true rfl), (Nat.le_of_ble_eq_true rfl)⟩ rfl ?_
    refine ct_X10_tent1 (k := 3) hu (by decide) ?_
    show WF _ E Po _ _ _ _ _ _ _
    refine r_iconst (q := 68) (v := 1) dX10_bathes_67 rfl rfl ?_
    refine r_iadd (q := 69) dX10_bathes_68 rfl ?_
    refine r_callV (q := 72) (ci := 12) (As := [_, _, _]) dX10_bathes_69 s_X10_bathes_137 md_g0 rfl rfl rfl (Nat.le_of_ble_eq_true rfl) rfl rfl rfl (Nat.le_of_ble_eq_true rfl) (Nat.le_of_ble_eq_true rfl) ⟨(Nat.le_of_ble_eq_true rfl), (Nat.le_of_ble_eq_true rfl)⟩ rfl ?_
    refine ct_X10_setTent (k := 3) hu (by decide) ?_
    show WF _ E Po _ _ _ _ _ _ _
    refine r_bipush (q := 74) (v := 66) dX10_bathes_72 (by decide) rfl ?_
    refine r_bipush (q := 76) (v := 11) dX10_bathes_74 (by decide) rfl ?_
    refine r_iload_n (q := 77) dX10_bathes_76 rfl rfl rfl ?_
    refine r_imul (q := 78) dX10_bathes_77 rfl ?_
    refine r_iadd (q := 79) dX10_bathes_78 rfl ?_
    refine r_iconst (q := 80) (v := 5) dX10_bathes_79 rfl rfl ?_
    refine r_iadd (q := 81) dX10_bathes_80 rfl ?_
    refine r_istore_n (q := 82) dX10_bathes_81 rfl (Nat.le_of_ble_eq_true rfl) (xone_of rfl) rfl ?_
    refine r_aload_n (q := 83) dX10_bathes_82 rfl rfl rfl ?_
    refine r_getfield (q := 86) dX10_bathes_83 f_X10_bathes_9 md_g0 rfl rfl ?_
    refine r_iload_n (q := 87) dX10_bathes_86 rfl rfl rfl ?_
    refine r_iconst (q := 88) (v := 1) dX10_bathes_87 rfl rfl ?_
    refine r_iadd (q := 89) dX10_bathes_88 rfl ?_
    refine r_aload_n (q := 90) dX10_bathes_89 rfl rfl rfl ?_
    refine r_getfield (q := 93) dX10_bathes_90 f_X10_bathes_9 md_g0 rfl rfl ?_
    refine r_iload_n (q := 94) dX10_bathes_93 rfl rfl rfl ?_
    refine r_iconst (q := 95) (v := 5) dX10_bathes_94 rfl rfl ?_
    refine r_copyi (q := 98) dX10_bathes_95 a_X10_bathes_66 md_g1 md_g1 (sa := 66 + 11 * u + 5 + 1) (da := 66 + 11 * u + 5) (na := 5) (by rw [show (66 : Int32) + 11 * nI u + 5 = nI (66 + 11 * u + 5) from ixU (k := 5)]; exact nI_1 _) (ixU (k := 5)) rfl (by omega) (by omega) (by decide) (Nat.le_of_ble_eq_true rfl) rfl ?_
    refine WF.cw (md_p1 (flat_shU hu) rfl rfl) ?_
    change WF _ E Po _ _ _ _ (md E w m (cSh (cU (mbA d v) u 3 ((mbA d v).2.2.1 u 3 + 1)) u) r o t) _ _
    refine r_aload_n (q := 99) dX10_bathes_98 rfl rfl rfl ?_
    refine r_iload_n (q := 100) dX10_bathes_99 rfl rfl rfl ?_
    refine r_iconst (q := 101) (v := 4) dX10_bathes_100 rfl rfl ?_
    refine r_aload_n (q := 102) dX10_bathes_101 rfl rfl rfl ?_
    refine r_iload_n (q := 103) dX10_bathes_102 rfl rfl rfl ?_
    refine r_iconst (q := 104) (v := 4) dX10_bathes_103 rfl rfl ?_
    refine r_callV (q := 107) (ci := 12) (As := [_, _]) dX10_bathes_104 s_X10_bathes_134 md_g0 rfl rfl rfl (Nat.le_of_ble_eq_true rfl) rfl rfl rfl (Nat.le_of_ble_eq_true rfl) (Nat.le_of_ble_eq_true rfl) ⟨(Nat.le_of_ble_eq_true rfl), (Nat.le_of_ble_eq_true rfl)⟩ rfl ?_
    refine ct_X10_tent1 (k := 4) hu (by decide) ?_
    show WF _ E Po _ _ _ _ _ _ _
    refine r_iconst (q := 108) (v := 1) dX10_bathes_107 rfl rfl ?_
    refine r_isub (q := 109) dX10_bathes_108 rfl ?_
    refine r_callV (q := 112) (ci := 12) (As := [_, _, _]) dX10_bathes_109 s_X10_bathes_137 md_g0 rfl rfl rfl (Nat.le_of_ble_eq_true rfl) rfl rfl rfl (Nat.le_of_ble_eq_true rfl) (Nat.le_of_ble_eq_true rfl) ⟨(Nat.le_of_ble_eq_true rfl), (Nat.le_of_ble_eq_true rfl)⟩ rfl ?_
    refine ct_X10_setTent (k := 4) hu (by decide) ?_
    show WF _ E Po _ _ _ _ _ _ _
    change WF _ E Po _ _ _ _ (md E w m (mbB (mbA d v) u) r o t) _ _
    refine r_aload_n (q := 113) dX10_bathes_112 rfl rfl rfl ?_
    refine r_iload_n (q := 114) dX10_bathes_113 rfl rfl rfl ?_
    refine r_iconst (q := 115) (v := 5) dX10_bathes_114 rfl rfl ?_
    refine r_iconst (q := 116) (v := 1) dX10_bathes_115 rfl rfl ?_
    refine r_callV (q := 119) (ci := 12) (As := [_, _, _]) dX10_bathes_116 s_X10_bathes_112 md_g0 rfl rfl rfl (Nat.le_of_ble_eq_true rfl) rfl rfl rfl (Nat.le_of_ble_eq_true rfl) (Nat.le_of_ble_eq_true rfl) ⟨(Nat.le_of_ble_eq_true rfl), (Nat.le_of_ble_eq_true rfl)⟩ rfl ?_
    refine ct_X10_setTub (k := 5) hj (by decide) ?_
    show WF _ E Po _ _ _ _ _ _ _
    refine r_aload_n (q := 120) dX10_bathes_119 rfl rfl rfl ?_
    refine r_iload_n (q := 121) dX10_bathes_120 rfl rfl rfl ?_
    refine r_bipush (q := 123) (v := 6) dX10_bathes_121 (by decide) rfl ?_
    refine r_aload_n (q := 124) dX10_bathes_123 rfl rfl rfl ?_
    refine r_iload_n (q := 125) dX10_bathes_124 rfl rfl rfl ?_
    refine r_bipush (q := 127) (v := 6) dX10_bathes_125 (by decide) rfl ?_
    refine r_callV (q := 130) (ci := 12) (As := [_, _]) dX10_bathes_127 s_X10_bathes_93 md_g0 rfl rfl rfl (Nat.le_of_ble_eq_true rfl) rfl rfl rfl (Nat.le_of_ble_eq_true rfl) (Nat.le_of_ble_eq_true rfl) ⟨(Nat.le_of_ble_eq_true rfl), (Nat.le_of_ble_eq_true rfl)⟩ rfl ?_
    refine ct_X10_tub1 (k := 6) hj (by decide) ?_
    show WF _ E Po _ _ _ _ _ _ _
    refine r_iconst (q := 131) (v := 1) dX10_bathes_130 rfl rfl ?_
    refine r_iadd (q := 132) dX10_bathes_131 rfl ?_
    refine r_callV (q := 135) (ci := 12) (As := [_, _, _]) dX10_bathes_132 s_X10_bathes_112 md_g0 rfl rfl rfl (Nat.le_of_ble_eq_true rfl) rfl rfl rfl (Nat.le_of_ble_eq_true rfl) (Nat.le_of_ble_eq_true rfl) ⟨(Nat.le_of_ble_eq_true rfl), (Nat.le_of_ble_eq_true rfl)⟩ rfl ?_
    refine ct_X10_setTub (k := 6) hj (by decide) ?_
    show WF _ E Po _ _ _ _ _ _ _
    change WF _ E Po _ _ _ _ (md E w m (bthC (mbB (mbA d v) u) j) r o t) _ _
    generalize hq : bthC (mbB (mbA d v) u) j = q at hp ⊢
    unfold mbD at hp
    refine r_aload_n (q := 136) dX10_bathes_135 rfl rfl rfl ?_
    refine r_iload_n (q := 137) dX10_bathes_136 rfl rfl rfl ?_
    refine r_bipush (q := 139) (v := 6) dX10_bathes_137 (by decide) rfl ?_
    refine r_callV (q := 142) (ci := 12) (As := [_, _]) dX10_bathes_139 s_X10_bathes_93 md_g0 rfl rfl rfl (Nat.le_of_ble_eq_true rfl) rfl rfl rfl (Nat.le_of_ble_eq_true rfl) (Nat.le_of_ble_eq_true rfl) ⟨(Nat.le_of_ble_eq_true rfl), (Nat.le_of_ble_eq_true rfl)⟩ rfl ?_
    refine ct_X10_tub1 (k := 6) hj (by decide) ?_
    show WF _ E Po _ _ _ _ _ _ _
    refine r_iconst (q := 143) (v := 4) dX10_bathes_142 rfl rfl ?_
    refine r_irem (q := 144) dX10_bathes_143 (by decide) rfl ?_
    refine r_if_ne (q := 174) (q2 := 147) dX10_bathes_144 (by decide) rfl (fun h144 => ?_) (fun h144 => ?_)
    · rw [if_neg h144] at hp
      refine r_vret dX10_bathes_174 rfl (Nat.le_of_ble_eq_true rfl) (Nat.le_of_ble_eq_true rfl) ?_
      exact hp
    · rw [if_pos h144] at hp
      refine r_aload_n (q := 148) dX10_bathes_147 rfl rfl rfl ?_
      refine r_iload_n (q := 149) dX10_bathes_148 rfl rfl rfl ?_
      refine r_iconst (q := 150) (v := 2) dX10_bathes_149 rfl rfl ?_
      refine r_aload_n (q := 151) dX10_bathes_150 rfl rfl rfl ?_
      refine r_iload_n (q := 152) dX10_bathes_151 rfl rfl rfl ?_
      refine r_iconst (q := 153) (v := 2) dX10_bathes_152 rfl rfl ?_
      refine r_callV (q := 156) (ci := 12) (As := [_, _]) dX10_bathes_153 s_X10_bathes_93 md_g0 rfl rfl rfl (Nat.le_of_ble_eq_true rfl) rfl rfl rfl (Nat.le_of_ble_eq_true rfl) (Nat.le_of_ble_eq_true rfl) ⟨(Nat.le_of_ble_eq_true rfl), (Nat.le_of_ble_eq_true rfl)⟩ rfl ?_
      refine ct_X10_tub1 (k := 2) hj (by decide) ?_
      show WF _ E Po _ _ _ _ _ _ _
      refine r_iconst (q := 157) (v := 1) dX10_bathes_156 rfl rfl ?_
      refine r_iload_n (q := 158) dX10_bathes_157 rfl rfl rfl ?_
      refine r_aload_n (q := 159) dX10_bathes_158 rfl rfl rfl ?_
      refine r_iload_n (q := 160) dX10_bathes_159 rfl rfl rfl ?_
      refine r_bipush (q := 162) (v := 6) dX10_bathes_160 (by decide) rfl ?_
      refine r_callV (q := 165) (ci := 12) (As := [_, _]) dX10_bathes_162 s_X10_bathes_93 md_g0 rfl rfl rfl (Nat.le_of_ble_eq_true rfl) rfl rfl rfl (Nat.le_of_ble_eq_true rfl) (Nat.le_of_ble_eq_true rfl) ⟨(Nat.le_of_ble_eq_true rfl), (Nat.le_of_ble_eq_true rfl)⟩ rfl ?_
      refine ct_X10_tub1 (k := 6) hj (by decide) ?_
      show WF _ E Po _ _ _ _ _ _ _
      refine r_iadd (q := 166) dX10_bathes_165 rfl ?_
      refine r_bipush (q := 168) (v := 8) dX10_bathes_166 (by decide) rfl ?_
      refine r_irem (q := 169) dX10_bathes_168 (by decide) rfl ?_
      refine r_ishl (q := 170) dX10_bathes_169 rfl ?_
      refine r_ior (q := 171) dX10_bathes_170 rfl ?_
      refine r_callV (q := 174) (ci := 12) (As := [_, _, _]) dX10_bathes_171 s_X10_bathes_112 md_g0 rfl rfl rfl (Nat.le_of_ble_eq_true rfl) rfl rfl rfl (Nat.le_of_ble_eq_true rfl) (Nat.le_of_ble_eq_true rfl) ⟨(Nat.le_of_ble_eq_true rfl), (Nat.le_of_ble_eq_true rfl)⟩ rfl ?_
      refine ct_X10_setTub (k := 2) hj (by decide) ?_
      show WF _ E Po _ _ _ _ _ _ _
      refine r_vret dX10_bathes_174 rfl (Nat.le_of_ble_eq_true rfl) (Nat.le_of_ble_eq_true rfl) ?_
      exact hp
set_option maxRecDepth 100000 in
set_option maxHeartbeats 4000000 in
theorem ct_X10_bathes {E : xE} {Po : xPo} {w : xW} {m : Nat} {d : xCo} {r : mRs} {o : Nat → Int32} {t : mTx} {u j : Nat} (hu : u < 5) (hj : j < 8) (hp : Po (.inl none) (md E w m (mBth d u j) r o t)) : Ct M_X10_bathes E [.ref m, .int (nI u), .int (nI j)] (md E w m d r o t) Po := by
  refine Ct.of (ws2 := xAll) (L := [some (.ref m), some (.int (nI u)), some (.int (nI j)), none]) (by decide +kernel) rfl rfl (List.forall_mem_cons.mpr ⟨rfl, List.forall_mem_cons.mpr ⟨rfl, List.forall_mem_cons.mpr ⟨rfl, fun _ h => absurd h List.not_mem_nil⟩⟩⟩) (Nat.le_of_ble_eq_true rfl) rfl ?_
  unfold mBth at hp
  refine r_aload_n (q := 1) dX10_bathes_0 rfl rfl rfl ?_
  refine r_getfield (q := 4) dX10_bathes_1 f_X10_bathes_9 md_g0 rfl rfl ?_
  refine r_bipush (q := 6) (v := 6) dX10_bathes_4 (by decide) rfl ?_
  refine r_dup2 (q := 7) dX10_bathes_6 rfl rfl rfl ?_
  refine r_ldS (q := 8) (k := 6) dX10_bathes_7 (by decide) rfl ?_
  refine r_iconst (q := 9) (v := 1) dX10_bathes_8 rfl rfl ?_
  refine r_isub (q := 10) dX10_bathes_9 rfl ?_
  refine r_stS (q := 11) (k := 6) dX10_bathes_10 (by decide) rfl ?_
  refine r_aload_n (q := 12) dX10_bathes_11 rfl rfl rfl ?_
  refine r_getfield (q := 15) dX10_bathes_12 f_X10_bathes_9 md_g0 rfl rfl ?_
  refine r_bipush (q := 17) (v := 7) dX10_bathes_15 (by decide) rfl ?_
  refine r_dup2 (q := 18) dX10_bathes_17 rfl rfl rfl ?_
  refine r_ldS (q := 19) (k := 7) dX10_bathes_18 (by decide) rfl ?_
  refine r_aload_n (q := 20) dX10_bathes_19 rfl rfl rfl ?_
  refine r_iload_n (q := 21) dX10_bathes_20 rfl rfl rfl ?_
  refine r_iconst (q := 22) (v := 4) dX10_bathes_21 rfl rfl ?_
  refine r_callV (q := 25) (ci := 12) (As := [_, _]) dX10_bathes_22 s_X10_bathes_93 md_g0 rfl rfl rfl (Nat.le_of_ble_eq_true rfl) rfl rfl rfl (Nat.le_of_ble_eq_true rfl) (Nat.le_of_ble_eq_true rfl) ⟨(Nat.le_of_ble_eq_true rfl), (Nat.le_of_ble_eq_true rfl)⟩ rfl ?_
  refine ct_X10_tub1 (k := 4) hj (by decide) ?_
  show WF _ E Po _ _ _ _ _ _ _
  refine r_bipush (q := 27) (v := 45) dX10_bathes_25 (by decide) rfl ?_
  refine r_icmp_lt (q := 34) (q2 := 30) dX10_bathes_27 (by decide) rfl (fun h27 => ?_) (fun h27 => ?_)
  · rw [if_pos h27] at hp
    refine r_iconst (q := 35) (v := 3) dX10_bathes_34 rfl rfl ?_
    exact lp_X10_bathes hu hj 1 0 hp (by decide)
  · rw [if_neg h27] at hp
    refine r_iconst (q := 31) (v := 4) dX10_bathes_30 rfl rfl ?_
    refine r_goto (q := 35) dX10_bathes_31 (by decide) ?_
    exact lp_X10_bathes hu hj 1 0 hp (by decide)
set_option maxRecDepth 100000 in
set_option maxHeartbeats 4000000 in
theorem lp_X10_cool {E : xE} {Po : xPo} {w0 w : xW} {m : Nat} {g : xCo} {r : mRs} {o : Nat → Int32} {t : mTx} {j : Nat} {lt al wm y : Int32} {z6 : Option Value} (hj : j < 8) (n9 : Nat) : ∀ (z : Nat) (hp : Po (.inl (some (.int 0))) (md E w m (mCl g j wm) r o t)) (hn9 : 0 < n9), WF M_X10_goTent E Po w0 248 [some (.ref m), some (.int y), some (.int (nI j)), some (.int al), some (.int lt), some (.int wm), z6] [] (md E w m g r o t) 0 0 := by
  induction n9 with
  | zero => intro z hp hn9; exact absurd hn9 (Nat.not_lt_zero _)
  | succ n9 ih =>
    intro z hp hn9
    refine r_aload_n (q := 249) dX10_goTent_248 rfl rfl rfl ?_
    refine r_iload_n (q := 250) dX10_goTent_249 rfl rfl rfl ?_
    refine r_iconst (q := 251) (v := 4) dX10_goTent_250 rfl rfl ?_
    refine r_bipush (q := 253) (v := 10) dX10_goTent_251 (by decide) rfl ?_
    refine r_iload (q := 255) dX10_goTent_253 rfl rfl ?_
    refine r_iconst (q := 256) (v := 1) dX10_goTent_255 rfl rfl ?_
    refine r_isub (q := 257) dX10_goTent_256 rfl ?_
    refine r_mmax (q := 260) dX10_goTent_257 p_X10_goTent_175 (Nat.le_of_ble_eq_true rfl) rfl (Nat.le_of_ble_eq_true rfl) (Nat.le_of_ble_eq_true rfl) ?_
    refine r_callV (q := 263) (ci := 12) (As := [_, _, _]) dX10_goTent_260 s_X10_goTent_112 md_g0 rfl rfl rfl (Nat.le_of_ble_eq_true rfl) rfl rfl rfl (Nat.le_of_ble_eq_true rfl) (Nat.le_of_ble_eq_true rfl) ⟨(Nat.le_of_ble_eq_true rfl), (Nat.le_of_ble_eq_true rfl)⟩ rfl ?_
    refine ct_X10_setTub (k := 4) hj (by decide) ?_
    show WF _ E Po _ _ _ _ _ _ _
    refine r_iconst (q := 264) (v := 0) dX10_goTent_263 rfl rfl ?_
    refine r_iret dX10_goTent_264 rfl (Nat.le_of_ble_eq_true rfl) (Nat.le_of_ble_eq_true rfl) ?_
    exact hp
set_option maxRecDepth 100000 in
set_option maxHeartbeats 4000000 in
theorem lp_X10_tail {E : xE} {Po : xPo} {w0 w : xW} {m : Nat} {g : xCo} {r : mRs} {o : Nat → Int32} {t : mTx} {u j : Nat} {lt al wm : Int32} (hu : u < 5) (hj : j < 8) (hs : ¬ g.2.1 j 0 = 0) (hh : 0 ≤ g.2.2.1 u 2 → ∃ h, h < 4 ∧ g.2.2.1 u 2 = nI h) (n9 : Nat) : ∀ (z : Nat) (hp : Po (.inl (some (.int 0))) (md E w m (mTl g u j wm) r o t)) (hn9 : 0 < n9), WF M_X10_goTent E Po w0 177 [some (.ref m), some (.int (nI u)), some (.int (nI j)), some (.int al), some (.int lt), some (.int wm), none] [] (md E w m g r o t) 0 0 := by
  induction n9 with
  | zero => intro z hp hn9; exact absurd hn9 (Nat.not_lt_zero _)
  | succ n9 ih =>
    intro z hp hn9
    unfold mTl mn at hp
    refine r_aload_n (q := 178) dX10_goTent_177 rfl rfl rfl ?_
    refine r_iload_n (q := 179) dX10_goTent_178 rfl rfl rfl ?_
    refine r_iconst (q := 180) (v := 2) dX10_goTent_179 rfl rfl ?_
    refine r_callV (q := 183) (ci := 12) (As := [_, _]) dX10_goTent_180 s_X10_goTent_134 md_g0 rfl rfl rfl (Nat.le_of_ble_eq_true rfl) rfl rfl rfl (Nat.le_of_ble_eq_true rfl) (Nat.le_of_ble_eq_true rfl) ⟨(Nat.le_of_ble_eq_true rfl), (Nat.le_of_ble_eq_true rfl)⟩ rfl ?_
    refine ct_X10_tent1 (k := 2) hu (by decide) ?_
    show WF _ E Po _ _ _ _ _ _ _
    refine r_istore (q := 185) dX10_goTent_183 (Nat.le_of_ble_eq_true rfl) (xone_of rfl) rfl ?_
    refine r_iload (q := 187) dX10_goTent_185 rfl rfl ?_
    refine r_if_lt (q := 248) (q2 := 190) dX10_goTent_187 (by decide) rfl (fun h187 => ?_) (fun h187 => ?_)
    · rw [if_pos h187] at hp
      exact lp_X10_cool hj 1 0 hp (by decide)
    · rw [if_neg h187] at hp
      obtain ⟨h, hh4, eh⟩ := hh (Int32.not_lt.mp h187)
      rw [eh, nI_cl (by omega)] at hp
      rw [eh]
      refine r_aload_n (q := 191) dX10_goTent_190 rfl rfl rfl ?_
      refine r_iload (q := 193) dX10_goTent_191 rfl rfl ?_
      refine r_callV (q := 196) (ci := 12) (As := [_]) dX10_goTent_193 s_X10_goTent_152 md_g0 rfl rfl rfl (Nat.le_of_ble_eq_true rfl) rfl rfl rfl (Nat.le_of_ble_eq_true rfl) (Nat.le_of_ble_eq_true rfl) ⟨(Nat.le_of_ble_eq_true rfl), (Nat.le_of_ble_eq_true rfl)⟩ rfl ?_
      refine ct_X10_gasOf hh4 ?_
      show WF _ E Po _ _ _ _ _ _ _
      refine r_if_le (q := 248) (q2 := 199) dX10_goTent_196 (by decide) rfl (fun h196 => ?_) (fun h196 => ?_)
      · rw [if_pos h196] at hp
        exact lp_X10_cool hj 1 0 hp (by decide)
      · rw [if_neg h196] at hp
        refine r_iload (q := 201) dX10_goTent_199 rfl rfl ?_
        refine r_bipush (q := 203) (v := 60) dX10_goTent_201 (by decide) rfl ?_
        refine r_icmp_ge (q := 248) (q2 := 206) dX10_goTent_203 (by decide) rfl (fun h203 => ?_) (fun h203 => ?_)
        · rw [if_pos h203] at hp
          exact lp_X10_cool hj 1 0 hp (by decide)
        · rw [if_neg h203] at hp
          refine r_aload_n (q := 207) dX10_goTent_206 rfl rfl rfl ?_
          refine r_getfield (q := 210) dX10_goTent_207 f_X10_goTent_9 md_g0 rfl rfl ?_
          refine r_bipush (q := 212) (v := 121) dX10_goTent_210 (by decide) rfl ?_
          refine r_iconst (q := 213) (v := 2) dX10_goTent_212 rfl rfl ?_
          refine r_iload (q := 215) dX10_goTent_213 rfl rfl ?_
          refine r_imul (q := 216) dX10_goTent_215 rfl ?_
          refine r_iadd (q := 217) dX10_goTent_216 rfl ?_
          refine r_dup2 (q := 218) dX10_goTent_217 rfl rfl rfl ?_
          refine r_ldG (q := 219) (k := 0) dX10_goTent_218 hh4 (by decide) ixG rfl ?_
          refine r_iconst (q := 220) (v := 1) dX10_goTent_219 rfl rfl ?_
          refine r_isub (q := 221) dX10_goTent_220 rfl ?_
          refine r_stG (q := 222) (k := 0) dX10_goTent_221 hh4 (by decide) ixG rfl ?_
          refine r_aload_n (q := 223) dX10_goTent_222 rfl rfl rfl ?_
          refine r_iload_n (q := 224) dX10_goTent_223 rfl rfl rfl ?_
          refine r_iconst (q := 225) (v := 4) dX10_goTent_224 rfl rfl ?_
          refine r_bipush (q := 227) (v := 60) dX10_goTent_225 (by decide) rfl ?_
          refine r_iload (q := 229) dX10_goTent_227 rfl rfl ?_
          refine r_bipush (q := 231) (v := 12) dX10_goTent_229 (by decide) rfl ?_
          refine r_aload_n (q := 232) dX10_goTent_231 rfl rfl rfl ?_
          refine r_iload_n (q := 233) dX10_goTent_232 rfl rfl rfl ?_
          refine r_iconst (q := 234) (v := 0) dX10_goTent_233 rfl rfl ?_
          refine r_callV (q := 237) (ci := 12) (As := [_, _]) dX10_goTent_234 s_X10_goTent_93 md_g0 rfl rfl rfl (Nat.le_of_ble_eq_true rfl) rfl rfl rfl (Nat.le_of_ble_eq_true rfl) (Nat.le_of_ble_eq_true rfl) ⟨(Nat.le_of_ble_eq_true rfl), (Nat.le_of_ble_eq_true rfl)⟩ rfl ?_
          refine ct_X10_tub1 (k := 0) hj (by decide) ?_
          show WF _ E Po _ _ _ _ _ _ _
          refine r_idiv (q := 238) dX10_goTent_237 hs rfl ?_
          refine r_iadd (q := 239) dX10_goTent_238 rfl ?_
          refine r_mmin (q := 242) dX10_goTent_239 p_X10_goTent_164 (Nat.le_of_ble_eq_true rfl) rfl (Nat.le_of_ble_eq_true rfl) (Nat.le_of_ble_eq_true rfl) ?_
          refine r_callV (q := 245) (ci := 12) (As := [_, _, _]) dX10_goTent_242 s_X10_goTent_112 md_g0 rfl rfl rfl (Nat.le_of_ble_eq_true rfl) rfl rfl rfl (Nat.le_of_ble_eq_true rfl) (Nat.le_of_ble_eq_true rfl) ⟨(Nat.le_of_ble_eq_true rfl), (Nat.le_of_ble_eq_true rfl)⟩ rfl ?_
          refine ct_X10_setTub (k := 4) hj (by decide) ?_
          show WF _ E Po _ _ _ _ _ _ _
          refine r_goto (q := 263) dX10_goTent_245 (by decide) ?_
          refine r_iconst (q := 264) (v := 0) dX10_goTent_263 rfl rfl ?_
          refine r_iret dX10_goTent_264 rfl (Nat.le_of_ble_eq_true rfl) (Nat.le_of_ble_eq_true rfl) ?_
          exact hp
set_option maxRecDepth 100000 in
set_option maxHeartbeats 4000000 in
theorem lp_X10_goT {E : xE} {Po : xPo} {w0 w : xW} {m : Nat} {g : xCo} {r : mRs} {o : Nat → Int32} {t : mTx} {u j : Nat} {lt al wm : Int32} (hu : u < 5) (hj : j < 8) (hs : ¬ g.2.1 j 0 = 0) (hh : 0 ≤ g.2.2.1 u 2 → ∃ h, h < 4 ∧ g.2.2.1 u 2 = nI h) (n9 : Nat) : ∀ (z : Nat) (hp : Po (.inl (some (.int (mH2 g u j lt al wm).1))) (md E w m (mH2 g u j lt al wm).2 r o t)) (hn9 : 0 < n9), WF M_X10_goTent E Po w0 46 [some (.ref m), some (.int (nI u)), some (.int (nI j)), some (.int al), some (.int lt), some (.int wm), none] [] (md E w m g r o t) 0 0 := by
  induction n9 with
  | zero => intro z hp hn9; exact absurd hn9 (Nat.not_lt_zero _)
  | succ n9 ih =>
    intro z hp hn9
    unfold mH2 mx at hp
    refine r_aload_n (q := 47) dX10_goTent_46 rfl rfl rfl ?_
    refine r_iload_n (q := 48) dX10_goTent_47 rfl rfl rfl ?_
    refine r_iconst (q := 49) (v := 5) dX10_goTent_48 rfl rfl ?_
    refine r_callV (q := 52) (ci := 12) (As := [_, _]) dX10_goTent_49 s_X10_goTent_93 md_g0 rfl rfl rfl (Nat.le_of_ble_eq_true rfl) rfl rfl rfl (Nat.le_of_ble_eq_true rfl) (Nat.le_of_ble_eq_true rfl) ⟨(Nat.le_of_ble_eq_true rfl), (Nat.le_of_ble_eq_true rfl)⟩ rfl ?_
    refine ct_X10_tub1 (k := 5) hj (by decide) ?_
    show WF _ E Po _ _ _ _ _ _ _
    refine r_iconst (q := 53) (v := 1) dX10_goTent_52 rfl rfl ?_
    refine r_icmp_ne (q := 103) (q2 := 56) dX10_goTent_53 (by decide) rfl (fun h53 => ?_) (fun h53 => ?_)
    · rw [if_neg h53] at hp
      refine r_iload (q := 105) dX10_goTent_103 rfl rfl ?_
      refine r_iload_n (q := 106) dX10_goTent_105 rfl rfl rfl ?_
      refine r_icmp_ge (q := 143) (q2 := 109) dX10_goTent_106 (by decide) rfl (fun h106 => ?_) (fun h106 => ?_)
      · rw [if_pos h106] at hp
        refine r_iload (q := 145) dX10_goTent_143 rfl rfl ?_
        refine r_bipush (q := 147) (v := 38) dX10_goTent_145 (by decide) rfl ?_
        refine r_icmp_lt (q := 177) (q2 := 150) dX10_goTent_147 (by decide) rfl (fun h147 => ?_) (fun h147 => ?_)
        · rw [if_pos h147] at hp
          exact lp_X10_tail hu hj hs hh 1 0 hp (by decide)
        · rw [if_neg h147] at hp
          refine r_aload_n (q := 151) dX10_goTent_150 rfl rfl rfl ?_
          refine r_iload_n (q := 152) dX10_goTent_151 rfl rfl rfl ?_
          refine r_iconst (q := 153) (v := 4) dX10_goTent_152 rfl rfl ?_
          refine r_callV (q := 156) (ci := 12) (As := [_, _]) dX10_goTent_153 s_X10_goTent_134 md_g0 rfl rfl rfl (Nat.le_of_ble_eq_true rfl) rfl rfl rfl (Nat.le_of_ble_eq_true rfl) (Nat.le_of_ble_eq_true rfl) ⟨(Nat.le_of_ble_eq_true rfl), (Nat.le_of_ble_eq_true rfl)⟩ rfl ?_
          refine ct_X10_tent1 (k := 4) hu (by decide) ?_
          show WF _ E Po _ _ _ _ _ _ _
          refine r_if_le (q := 177) (q2 := 159) dX10_goTent_156 (by decide) rfl (fun h156 => ?_) (fun h156 => ?_)
          · rw [if_pos h156] at hp
            exact lp_X10_tail hu hj hs hh 1 0 hp (by decide)
          · rw [if_neg h156] at hp
            refine r_aload_n (q := 160) dX10_goTent_159 rfl rfl rfl ?_
            refine r_getfield (q := 163) dX10_goTent_160 f_X10_goTent_9 md_g0 rfl rfl ?_
            refine r_bipush (q := 165) (v := 6) dX10_goTent_163 (by decide) rfl ?_
            refine r_ldS (q := 166) (k := 6) dX10_goTent_165 (by decide) rfl ?_
            refine r_if_le (q := 177) (q2 := 169) dX10_goTent_166 (by decide) rfl (fun h166 => ?_) (fun h166 => ?_)
            · rw [if_pos h166] at hp
              exact lp_X10_tail hu hj hs hh 1 0 hp (by decide)
            · rw [if_neg h166] at hp
              refine r_aload_n (q := 170) dX10_goTent_169 rfl rfl rfl ?_
              refine r_iload_n (q := 171) dX10_goTent_170 rfl rfl rfl ?_
              refine r_iload_n (q := 172) dX10_goTent_171 rfl rfl rfl ?_
              refine r_callV (q := 175) (ci := 12) (As := [_, _]) dX10_goTent_172 s_X10_goTent_178 md_g0 rfl rfl rfl (Nat.le_of_ble_eq_true rfl) rfl rfl rfl (Nat.le_of_ble_eq_true rfl) (Nat.le_of_ble_eq_true rfl) ⟨(Nat.le_of_ble_eq_true rfl), (Nat.le_of_ble_eq_true rfl)⟩ rfl ?_
              refine ct_X10_bathes hu hj ?_
              show WF _ E Po _ _ _ _ _ _ _
              refine r_iconst (q := 176) (v := 1) dX10_goTent_175 rfl rfl ?_
              refine r_iret dX10_goTent_176 rfl (Nat.le_of_ble_eq_true rfl) (Nat.le_of_ble_eq_true rfl) ?_
              exact hp
      · rw [if_neg h106] at hp
        refine r_aload_n (q := 110) dX10_goTent_109 rfl rfl rfl ?_
        refine r_iload_n (q := 111) dX10_goTent_110 rfl rfl rfl ?_
        refine r_iconst (q := 112) (v := 4) dX10_goTent_111 rfl rfl ?_
        refine r_iload (q := 114) dX10_goTent_112 rfl rfl ?_
        refine r_if_ne (q := 122) (q2 := 117) dX10_goTent_114 (by decide) rfl (fun h114 => ?_) (fun h114 => ?_)
        · rw [if_neg h114] at hp
          refine r_bipush (q := 124) (v := 10) dX10_goTent_122 (by decide) rfl ?_
          refine r_iload (q := 126) dX10_goTent_124 rfl rfl ?_
          refine r_iconst (q := 127) (v := 5) dX10_goTent_126 rfl rfl ?_
          refine r_isub (q := 128) dX10_goTent_127 rfl ?_
          refine r_mmax (q := 131) dX10_goTent_128 p_X10_goTent_175 (Nat.le_of_ble_eq_true rfl) rfl (Nat.le_of_ble_eq_true rfl) (Nat.le_of_ble_eq_true rfl) ?_
          refine r_callV (q := 134) (ci := 12) (As := [_, _, _]) dX10_goTent_131 s_X10_goTent_112 md_g0 rfl rfl rfl (Nat.le_of_ble_eq_true rfl) rfl rfl rfl (Nat.le_of_ble_eq_true rfl) (Nat.le_of_ble_eq_true rfl) ⟨(Nat.le_of_ble_eq_true rfl), (Nat.le_of_ble_eq_true rfl)⟩ rfl ?_
          refine ct_X10_setTub (k := 4) hj (by decide) ?_
          show WF _ E Po _ _ _ _ _ _ _
          refine r_aload_n (q := 135) dX10_goTent_134 rfl rfl rfl ?_
          refine r_iload_n (q := 136) dX10_goTent_135 rfl rfl rfl ?_
          refine r_iconst (q := 137) (v := 3) dX10_goTent_136 rfl rfl ?_
          refine r_iload_n (q := 138) dX10_goTent_137 rfl rfl rfl ?_
          refine r_callV (q := 141) (ci := 12) (As := [_, _, _]) dX10_goTent_138 s_X10_goTent_112 md_g0 rfl rfl rfl (Nat.le_of_ble_eq_true rfl) rfl rfl rfl (Nat.le_of_ble_eq_true rfl) (Nat.le_of_ble_eq_true rfl) ⟨(Nat.le_of_ble_eq_true rfl), (Nat.le_of_ble_eq_true rfl)⟩ rfl ?_
          refine ct_X10_setTub (k := 3) hj (by decide) ?_
          show WF _ E Po _ _ _ _ _ _ _
          refine r_iconst (q := 142) (v := 0) dX10_goTent_141 rfl rfl ?_
          refine r_iret dX10_goTent_142 rfl (Nat.le_of_ble_eq_true rfl) (Nat.le_of_ble_eq_true rfl) ?_
          exact hp
        · rw [if_pos h114] at hp
          refine r_bipush (q := 119) (v := 10) dX10_goTent_117 (by decide) rfl ?_
          refine r_goto (q := 131) dX10_goTent_119 (by decide) ?_
          refine r_callV (q := 134) (ci := 12) (As := [_, _, _]) dX10_goTent_131 s_X10_goTent_112 md_g0 rfl rfl rfl (Nat.le_of_ble_eq_true rfl) rfl rfl rfl (Nat.le_of_ble_eq_true rfl) (Nat.le_of_ble_eq_true rfl) ⟨(Nat.le_of_ble_eq_true rfl), (Nat.le_of_ble_eq_true rfl)⟩ rfl ?_
          refine ct_X10_setTub (k := 4) hj (by decide) ?_
          show WF _ E Po _ _ _ _ _ _ _
          refine r_aload_n (q := 135) dX10_goTent_134 rfl rfl rfl ?_
          refine r_iload_n (q := 136) dX10_goTent_135 rfl rfl rfl ?_
          refine r_iconst (q := 137) (v := 3) dX10_goTent_136 rfl rfl ?_
          refine r_iload_n (q := 138) dX10_goTent_137 rfl rfl rfl ?_
          refine r_callV (q := 141) (ci := 12) (As := [_, _, _]) dX10_goTent_138 s_X10_goTent_112 md_g0 rfl rfl rfl (Nat.le_of_ble_eq_true rfl) rfl rfl rfl (Nat.le_of_ble_eq_true rfl) (Nat.le_of_ble_eq_true rfl) ⟨(Nat.le_of_ble_eq_true rfl), (Nat.le_of_ble_eq_true rfl)⟩ rfl ?_
          refine ct_X10_setTub (k := 3) hj (by decide) ?_
          show WF _ E Po _ _ _ _ _ _ _
          refine r_iconst (q := 142) (v := 0) dX10_goTent_141 rfl rfl ?_
          refine r_iret dX10_goTent_142 rfl (Nat.le_of_ble_eq_true rfl) (Nat.le_of_ble_eq_true rfl) ?_
          exact hp
    · rw [if_pos h53] at hp
      refine r_aload_n (q := 57) dX10_goTent_56 rfl rfl rfl ?_
      refine r_iload_n (q := 58) dX10_goTent_57 rfl rfl rfl ?_
      refine r_iconst (q := 59) (v := 3) dX10_goTent_58 rfl rfl ?_
      refine r_iconst (q := 60) (v := 0) dX10_goTent_59 rfl rfl ?_
      refine r_iload (q := 62) dX10_goTent_60 rfl rfl ?_
      refine r_bipush (q := 64) (v := 20) dX10_goTent_62 (by decide) rfl ?_
      refine r_isub (q := 65) dX10_goTent_64 rfl ?_
      refine r_bipush (q := 67) (v := 10) dX10_goTent_65 (by decide) rfl ?_
      refine r_aload_n (q := 68) dX10_goTent_67 rfl rfl rfl ?_
      refine r_iload_n (q := 69) dX10_goTent_68 rfl rfl rfl ?_
      refine r_iconst (q := 70) (v := 0) dX10_goTent_69 rfl rfl ?_
      refine r_callV (q := 73) (ci := 12) (As := [_, _]) dX10_goTent_70 s_X10_goTent_134 md_g0 rfl rfl rfl (Nat.le_of_ble_eq_true rfl) rfl rfl rfl (Nat.le_of_ble_eq_true rfl) (Nat.le_of_ble_eq_true rfl) ⟨(Nat.le_of_ble_eq_true rfl), (Nat.le_of_ble_eq_true rfl)⟩ rfl ?_
      refine ct_X10_tent1 (k := 0) hu (by decide) ?_
      show WF _ E Po _ _ _ _ _ _ _
      refine r_imul (q := 74) dX10_goTent_73 rfl ?_
      refine r_isub (q := 75) dX10_goTent_74 rfl ?_
      refine r_mmax (q := 78) dX10_goTent_75 p_X10_goTent_175 (Nat.le_of_ble_eq_true rfl) rfl (Nat.le_of_ble_eq_true rfl) (Nat.le_of_ble_eq_true rfl) ?_
      refine r_callV (q := 81) (ci := 12) (As := [_, _, _]) dX10_goTent_78 s_X10_goTent_112 md_g0 rfl rfl rfl (Nat.le_of_ble_eq_true rfl) rfl rfl rfl (Nat.le_of_ble_eq_true rfl) (Nat.le_of_ble_eq_true rfl) ⟨(Nat.le_of_ble_eq_true rfl), (Nat.le_of_ble_eq_true rfl)⟩ rfl ?_
      refine ct_X10_setTub (k := 3) hj (by decide) ?_
      show WF _ E Po _ _ _ _ _ _ _
      refine r_aload_n (q := 82) dX10_goTent_81 rfl rfl rfl ?_
      refine r_iload_n (q := 83) dX10_goTent_82 rfl rfl rfl ?_
      refine r_iconst (q := 84) (v := 5) dX10_goTent_83 rfl rfl ?_
      refine r_aload_n (q := 85) dX10_goTent_84 rfl rfl rfl ?_
      refine r_iload_n (q := 86) dX10_goTent_85 rfl rfl rfl ?_
      refine r_iconst (q := 87) (v := 3) dX10_goTent_86 rfl rfl ?_
      refine r_callV (q := 90) (ci := 12) (As := [_, _]) dX10_goTent_87 s_X10_goTent_93 md_g0 rfl rfl rfl (Nat.le_of_ble_eq_true rfl) rfl rfl rfl (Nat.le_of_ble_eq_true rfl) (Nat.le_of_ble_eq_true rfl) ⟨(Nat.le_of_ble_eq_true rfl), (Nat.le_of_ble_eq_true rfl)⟩ rfl ?_
      refine ct_X10_tub1 (k := 3) hj (by decide) ?_
      show WF _ E Po _ _ _ _ _ _ _
      rw [cT_s]
      refine r_if_ne (q := 97) (q2 := 93) dX10_goTent_90 (by decide) rfl (fun h90 => ?_) (fun h90 => ?_)
      · rw [if_neg h90] at hp
        refine r_iconst (q := 98) (v := 1) dX10_goTent_97 rfl rfl ?_
        refine r_callV (q := 101) (ci := 12) (As := [_, _, _]) dX10_goTent_98 s_X10_goTent_112 md_g0 rfl rfl rfl (Nat.le_of_ble_eq_true rfl) rfl rfl rfl (Nat.le_of_ble_eq_true rfl) (Nat.le_of_ble_eq_true rfl) ⟨(Nat.le_of_ble_eq_true rfl), (Nat.le_of_ble_eq_true rfl)⟩ rfl ?_
        refine ct_X10_setTub (k := 5) hj (by decide) ?_
        show WF _ E Po _ _ _ _ _ _ _
        refine r_iconst (q := 102) (v := 0) dX10_goTent_101 rfl rfl ?_
        refine r_iret dX10_goTent_102 rfl (Nat.le_of_ble_eq_true rfl) (Nat.le_of_ble_eq_true rfl) ?_
        exact hp
      · rw [if_pos h90] at hp
        refine r_iconst (q := 94) (v := 0) dX10_goTent_93 rfl rfl ?_
        refine r_goto (q := 98) dX10_goTent_94 (by decide) ?_
        refine r_callV (q := 101) (ci := 12) (As := [_, _, _]) dX10_goTent_98 s_X10_goTent_112 md_g0 rfl rfl rfl (Nat.le_of_ble_eq_true rfl) rfl rfl rfl (Nat.le_of_ble_eq_true rfl) (Nat.le_of_ble_eq_true rfl) ⟨(Nat.le_of_ble_eq_true rfl), (Nat.le_of_ble_eq_true rfl)⟩ rfl ?_
        refine ct_X10_setTub (k := 5) hj (by decide) ?_
        show WF _ E Po _ _ _ _ _ _ _
        refine r_iconst (q := 102) (v := 0) dX10_goTent_101 rfl rfl ?_
        refine r_iret dX10_goTent_102 rfl (Nat.le_of_ble_eq_true rfl) (Nat.le_of_ble_eq_true rfl) ?_
        exact hp
set_option maxRecDepth 100000 in
set_option maxHeartbeats 4000000 in
theorem ct_X10_goTent {E : xE} {Po : xPo} {w : xW} {m : Nat} {d : xCo} {r : mRs} {o : Nat → Int32} {t : mTx} {u j : Nat} (hu : u < 5) (hj : j < 8) (hs : ¬ d.2.1 j 0 = 0) (hh : 0 ≤ d.2.2.1 u 2 → ∃ h, h < 4 ∧ d.2.2.1 u 2 = nI h) (hp : Po (.inl (some (.int (mHr d u j).1))) (md E w m (mHr d u j).2 r o t)) : Ct M_X10_goTent E [.ref m, .int (nI u), .int (nI j)] (md E w m d r o t) Po := by
  refine Ct.of (ws2 := xAll) (L := [some (.ref m), some (.int (nI u)), some (.int (nI j)), none, none, none, none]) (by decide +kernel) rfl rfl (List.forall_mem_cons.mpr ⟨rfl, List.forall_mem_cons.mpr ⟨rfl, List.forall_mem_cons.mpr ⟨rfl, fun _ h => absurd h List.not_mem_nil⟩⟩⟩) (Nat.le_of_ble_eq_true rfl) rfl ?_
  refine r_bipush (q := 2) (v := 100) dX10_goTent_0 (by decide) rfl ?_
  refine r_aload_n (q := 3) dX10_goTent_2 rfl rfl rfl ?_
  refine r_iload_n (q := 4) dX10_goTent_3 rfl rfl rfl ?_
  refine r_iconst (q := 5) (v := 0) dX10_goTent_4 rfl rfl ?_
  refine r_callV (q := 8) (ci := 12) (As := [_, _]) dX10_goTent_5 s_X10_goTent_93 md_g0 rfl rfl rfl (Nat.le_of_ble_eq_true rfl) rfl rfl rfl (Nat.le_of_ble_eq_true rfl) (Nat.le_of_ble_eq_true rfl) ⟨(Nat.le_of_ble_eq_true rfl), (Nat.le_of_ble_eq_true rfl)⟩ rfl ?_
  refine ct_X10_tub1 (k := 0) hj (by decide) ?_
  show WF _ E Po _ _ _ _ _ _ _
  refine r_imul (q := 9) dX10_goTent_8 rfl ?_
  refine r_istore_n (q := 10) dX10_goTent_9 rfl (Nat.le_of_ble_eq_true rfl) (xone_of rfl) rfl ?_
  refine r_iconst (q := 11) (v := 0) dX10_goTent_10 rfl rfl ?_
  refine r_aload_n (q := 12) dX10_goTent_11 rfl rfl rfl ?_
  refine r_iload_n (q := 13) dX10_goTent_12 rfl rfl rfl ?_
  refine r_iconst (q := 14) (v := 3) dX10_goTent_13 rfl rfl ?_
  refine r_callV (q := 17) (ci := 12) (As := [_, _]) dX10_goTent_14 s_X10_goTent_93 md_g0 rfl rfl rfl (Nat.le_of_ble_eq_true rfl) rfl rfl rfl (Nat.le_of_ble_eq_true rfl) (Nat.le_of_ble_eq_true rfl) ⟨(Nat.le_of_ble_eq_true rfl), (Nat.le_of_ble_eq_true rfl)⟩ rfl ?_
  refine ct_X10_tub1 (k := 3) hj (by decide) ?_
  show WF _ E Po _ _ _ _ _ _ _
  refine r_iconst (q := 18) (v := 5) dX10_goTent_17 rfl rfl ?_
  refine r_aload_n (q := 19) dX10_goTent_18 rfl rfl rfl ?_
  refine r_iload_n (q := 20) dX10_goTent_19 rfl rfl rfl ?_
  refine r_callV (q := 23) (ci := 12) (As := [_]) dX10_goTent_20 s_X10_goTent_125 md_g0 rfl rfl rfl (Nat.le_of_ble_eq_true rfl) rfl rfl rfl (Nat.le_of_ble_eq_true rfl) (Nat.le_of_ble_eq_true rfl) ⟨(Nat.le_of_ble_eq_true rfl), (Nat.le_of_ble_eq_true rfl)⟩ rfl ?_
  refine ct_X10_tornMany hj ?_
  show WF _ E Po _ _ _ _ _ _ _
  refine r_imul (q := 24) dX10_goTent_23 rfl ?_
  refine r_isub (q := 25) dX10_goTent_24 rfl ?_
  refine r_mmax (q := 28) dX10_goTent_25 p_X10_goTent_175 (Nat.le_of_ble_eq_true rfl) rfl (Nat.le_of_ble_eq_true rfl) (Nat.le_of_ble_eq_true rfl) ?_
  refine r_istore (q := 30) dX10_goTent_28 (Nat.le_of_ble_eq_true rfl) (xone_of rfl) rfl ?_
  refine r_aload_n (q := 31) dX10_goTent_30 rfl rfl rfl ?_
  refine r_iload_n (q := 32) dX10_goTent_31 rfl rfl rfl ?_
  refine r_iconst (q := 33) (v := 4) dX10_goTent_32 rfl rfl ?_
  refine r_callV (q := 36) (ci := 12) (As := [_, _]) dX10_goTent_33 s_X10_goTent_93 md_g0 rfl rfl rfl (Nat.le_of_ble_eq_true rfl) rfl rfl rfl (Nat.le_of_ble_eq_true rfl) (Nat.le_of_ble_eq_true rfl) ⟨(Nat.le_of_ble_eq_true rfl), (Nat.le_of_ble_eq_true rfl)⟩ rfl ?_
  refine ct_X10_tub1 (k := 4) hj (by decide) ?_
  show WF _ E Po _ _ _ _ _ _ _
  refine r_istore (q := 38) dX10_goTent_36 (Nat.le_of_ble_eq_true rfl) (xone_of rfl) rfl ?_
  refine r_aload_n (q := 39) dX10_goTent_38 rfl rfl rfl ?_
  refine r_iload_n (q := 40) dX10_goTent_39 rfl rfl rfl ?_
  refine r_iconst (q := 41) (v := 3) dX10_goTent_40 rfl rfl ?_
  refine r_iload (q := 43) dX10_goTent_41 rfl rfl ?_
  refine r_callV (q := 46) (ci := 12) (As := [_, _, _]) dX10_goTent_43 s_X10_goTent_112 md_g0 rfl rfl rfl (Nat.le_of_ble_eq_true rfl) rfl rfl rfl (Nat.le_of_ble_eq_true rfl) (Nat.le_of_ble_eq_true rfl) ⟨(Nat.le_of_ble_eq_true rfl), (Nat.le_of_ble_eq_true rfl)⟩ rfl ?_
  refine ct_X10_setTub (k := 3) hj (by decide) ?_
  show WF _ E Po _ _ _ _ _ _ _
  exact lp_X10_goT hu hj (show ¬ (cT d j 3 (gtL d j)).2.1 j 0 = 0 by rw [show (cT d j 3 (gtL d j)).2.1 j 0 = d.2.1 j 0 from up2_2 (by decide)]; exact hs) hh 1 0 hp (by decide)
set_option maxRecDepth 100000 in
set_option maxHeartbeats 4000000 in
theorem lp_X10_goHour {E : xE} {Po : xPo} {w0 w : xW} {m : Nat} {r : mRs} {o : Nat → Int32} {t : mTx} {N : Nat} (n9 : Nat) : ∀ (i : Nat) (a : Int32) (c : xCo) (o3 : Option Value) (hi : i ≤ N) (hc : inH c N) (hp : Po (.inl (some (.int (mhF (N - i) i a c).1))) (md E w m (mhF (N - i) i a c).2 r o t)) (hn9 : N - i < n9), WF M_X10_goHour E Po w0 14 [some (.ref m), some (.int a), some (.int (nI i)), o3] [] (md E w m c r o t) 0 0 := by
  induction n9 with
  | zero => intro i a c o3 hi hc hp hn9; exact absurd hn9 (Nat.not_lt_zero _)
  | succ n9 ih =>
    intro i a c o3 hi hc hp hn9
    refine r_iload_n (q := 15) dX10_goHour_14 rfl rfl rfl ?_
    refine r_aload_n (q := 16) dX10_goHour_15 rfl rfl rfl ?_
    refine r_getfield (q := 19) dX10_goHour_16 f_X10_goHour_9 md_g0 rfl rfl ?_
    refine r_iconst (q := 20) (v := 2) dX10_goHour_19 rfl rfl ?_
    refine r_ldS (q := 21) (k := 2) dX10_goHour_20 (by decide) rfl ?_
    rw [hc.2.1]
    refine r_icmp_ge (q := 54) (q2 := 24) dX10_goHour_21 (by decide) rfl (fun h21 => ?_) (fun h21 => ?_)
    · obtain rfl : i = N := by
        have h1 := (nI_leI (by have := hc.1; omega) (by have := hc.1; omega)).mp h21
        omega
      rw [Nat.sub_self] at hp
      refine r_iload_n (q := 55) dX10_goHour_54 rfl rfl rfl ?_
      refine r_iret dX10_goHour_55 rfl (Nat.le_of_ble_eq_true rfl) (Nat.le_of_ble_eq_true rfl) ?_
      exact hp
    · have hiN : i < N := by
        have : ¬ N ≤ i := fun q => h21 ((nI_leI (by have := hc.1; omega) (by have := hc.1; omega)).mpr q)
        omega
      have hi5 : i < 5 := by have := hc.1; omega
      obtain ⟨z, hz⟩ : ∃ z, N - i = z + 1 := ⟨N - i - 1, by omega⟩
      rw [hz, mhF] at hp
      refine r_aload_n (q := 25) dX10_goHour_24 rfl rfl rfl ?_
      refine r_iload_n (q := 26) dX10_goHour_25 rfl rfl rfl ?_
      refine r_iconst (q := 27) (v := 1) dX10_goHour_26 rfl rfl ?_
      refine r_callV (q := 30) (ci := 12) (As := [_, _]) dX10_goHour_27 s_X10_goHour_134 md_g0 rfl rfl rfl (Nat.le_of_ble_eq_true rfl) rfl rfl rfl (Nat.le_of_ble_eq_true rfl) (Nat.le_of_ble_eq_true rfl) ⟨(Nat.le_of_ble_eq_true rfl), (Nat.le_of_ble_eq_true rfl)⟩ rfl ?_
      refine ct_X10_tent1 (k := 1) hi5 (by decide) ?_
      show WF _ E Po _ _ _ _ _ _ _
      refine r_istore_n (q := 31) dX10_goHour_30 rfl (Nat.le_of_ble_eq_true rfl) (xone_of rfl) rfl ?_
      refine r_iload_n (q := 32) dX10_goHour_31 rfl rfl rfl ?_
      refine r_iload_n (q := 33) dX10_goHour_32 rfl rfl rfl ?_
      refine r_if_ge (q := 40) (q2 := 36) dX10_goHour_33 (by decide) rfl (fun h33 => ?_) (fun h33 => ?_)
      · rw [if_neg (Int32.not_lt.mpr h33)] at hp
        obtain ⟨j, hj, ej, hs⟩ := hc.2.2.1 i hiN h33
        rw [ej, nI_cl (by omega)] at hp
        rw [ej]
        have hc2 := hc.kp (Kp.rf.Hr (u := i) (j := j))
        refine r_aload_n (q := 41) dX10_goHour_40 rfl rfl rfl ?_
        refine r_iload_n (q := 42) dX10_goHour_41 rfl rfl rfl ?_
        refine r_iload_n (q := 43) dX10_goHour_42 rfl rfl rfl ?_
        refine r_callV (q := 46) (ci := 12) (As := [_, _]) dX10_goHour_43 s_X10_goHour_182 md_g0 rfl rfl rfl (Nat.le_of_ble_eq_true rfl) rfl rfl rfl (Nat.le_of_ble_eq_true rfl) (Nat.le_of_ble_eq_true rfl) ⟨(Nat.le_of_ble_eq_true rfl), (Nat.le_of_ble_eq_true rfl)⟩ rfl ?_
        refine ct_X10_goTent hi5 hj hs (hc.2.2.2 i hi5) ?_
        show WF _ E Po _ _ _ _ _ _ _
        refine r_iadd (q := 47) dX10_goHour_46 rfl ?_
        refine r_istore_n (q := 48) dX10_goHour_47 rfl (Nat.le_of_ble_eq_true rfl) (xone_of rfl) rfl ?_
        refine r_iinc (q := 51) dX10_goHour_48 rfl (Nat.le_of_ble_eq_true rfl) (xone_of rfl) rfl ?_
        rw [show nI i + Int32.ofInt 1 = nI (i + 1) from nI_1 i]
        refine r_goto (q := 14) dX10_goHour_51 (by decide) ?_
        exact ih (i + 1) _ _ _ (by omega) hc2 (by rw [show N - (i + 1) = z by omega]; exact hp) (by omega)
      · rw [if_pos (Int32.not_le.mp h33)] at hp
        have hc2 := hc
        refine r_iconst (q := 37) (v := 0) dX10_goHour_36 rfl rfl ?_
        refine r_goto (q := 46) dX10_goHour_37 (by decide) ?_
        refine r_iadd (q := 47) dX10_goHour_46 rfl ?_
        refine r_istore_n (q := 48) dX10_goHour_47 rfl (Nat.le_of_ble_eq_true rfl) (xone_of rfl) rfl ?_
        refine r_iinc (q := 51) dX10_goHour_48 rfl (Nat.le_of_ble_eq_true rfl) (xone_of rfl) rfl ?_
        rw [show nI i + Int32.ofInt 1 = nI (i + 1) from nI_1 i]
        refine r_goto (q := 14) dX10_goHour_51 (by decide) ?_
        exact ih (i + 1) _ _ _ (by omega) hc2 (by rw [show N - (i + 1) = z by omega]; exact hp) (by omega)
set_option maxRecDepth 100000 in
set_option maxHeartbeats 4000000 in
theorem ct_X10_goHour {E : xE} {Po : xPo} {w : xW} {m : Nat} {d : xCo} {r : mRs} {o : Nat → Int32} {t : mTx} {N : Nat} (hc : inH d N) (hp : Po (.inl (some (.int (mHour d).1))) (md E w m (mHour d).2 r o t)) : Ct M_X10_goHour E [.ref m] (md E w m d r o t) Po := by
  refine Ct.of (ws2 := xAll) (L := [some (.ref m), none, none, none]) (by decide +kernel) rfl rfl (List.forall_mem_cons.mpr ⟨rfl, fun _ h => absurd h List.not_mem_nil⟩) (Nat.le_of_ble_eq_true rfl) rfl ?_
  unfold mHour at hp
  rw [hc.2.1, nI_cl (by have := hc.1; omega)] at hp
  refine r_iconst (q := 1) (v := 0) dX10_goHour_0 rfl rfl ?_
  refine r_istore_n (q := 2) dX10_goHour_1 rfl (Nat.le_of_ble_eq_true rfl) (xone_of rfl) rfl ?_
  refine r_aload_n (q := 3) dX10_goHour_2 rfl rfl rfl ?_
  refine r_getfield (q := 6) dX10_goHour_3 f_X10_goHour_9 md_g0 rfl rfl ?_
  refine r_iconst (q := 7) (v := 0) dX10_goHour_6 rfl rfl ?_
  refine r_dup2 (q := 8) dX10_goHour_7 rfl rfl rfl ?_
  refine r_ldS (q := 9) (k := 0) dX10_goHour_8 (by decide) rfl ?_
  refine r_iconst (q := 10) (v := 1) dX10_goHour_9 rfl rfl ?_
  refine r_iadd (q := 11) dX10_goHour_10 rfl ?_
  refine r_stS (q := 12) (k := 0) dX10_goHour_11 (by decide) rfl ?_
  refine r_iconst (q := 13) (v := 0) dX10_goHour_12 rfl rfl ?_
  refine r_istore_n (q := 14) dX10_goHour_13 rfl (Nat.le_of_ble_eq_true rfl) (xone_of rfl) rfl ?_
  exact lp_X10_goHour (N := N) (N + 1) 0 _ _ _ (Nat.zero_le _) (hc.kp (Kp.rf.S (by decide))) hp (by omega)
set_option maxRecDepth 100000 in
set_option maxHeartbeats 4000000 in
theorem lp_X10_doPass {E : xE} {Po : xPo} {w0 w : xW} {m : Nat} {r : mRs} {o : Nat → Int32} {t : mTx} {N H : Nat} (hH : H ≤ 48) (n9 : Nat) : ∀ (i : Nat) (a : Int32) (c : xCo) (hi : i ≤ H) (hc : inH c N) (hp : Po (.inl (some (.int (mpF (H - i) a c).1))) (md E w m (mpF (H - i) a c).2 r o t)) (hn9 : H - i < n9), WF M_X10_doPass E Po w0 20 [some (.ref m), some (.int (nI H)), some (.int a), some (.int (nI i))] [] (md E w m c r o t) 0 0 := by
  induction n9 with
  | zero => intro i a c hi hc hp hn9; exact absurd hn9 (Nat.not_lt_zero _)
  | succ n9 ih =>
    intro i a c hi hc hp hn9
    refine r_iload_n (q := 21) dX10_doPass_20 rfl rfl rfl ?_
    refine r_iload_n (q := 22) dX10_doPass_21 rfl rfl rfl ?_
    refine r_icmp_ge (q := 38) (q2 := 25) dX10_doPass_22 (by decide) rfl (fun h22 => ?_) (fun h22 => ?_)
    · obtain rfl : i = H := by have := (nI_leI (by omega) (by omega)).mp h22; omega
      rw [Nat.sub_self] at hp
      refine r_iload_n (q := 39) dX10_doPass_38 rfl rfl rfl ?_
      refine r_iret dX10_doPass_39 rfl (Nat.le_of_ble_eq_true rfl) (Nat.le_of_ble_eq_true rfl) ?_
      exact hp
    · have hiH : i < H := by
        have : ¬ H ≤ i := fun q => h22 ((nI_leI (by omega) (by omega)).mpr q)
        omega
      obtain ⟨z, hz⟩ : ∃ z, H - i = z + 1 := ⟨H - i - 1, by omega⟩
      rw [hz, mpF] at hp
      refine r_iload_n (q := 26) dX10_doPass_25 rfl rfl rfl ?_
      refine r_aload_n (q := 27) dX10_doPass_26 rfl rfl rfl ?_
      refine r_callV (q := 30) (ci := 12) (As := []) dX10_doPass_27 s_X10_doPass_185 md_g0 rfl rfl rfl (Nat.le_of_ble_eq_true rfl) rfl rfl rfl (Nat.le_of_ble_eq_true rfl) (Nat.le_of_ble_eq_true rfl) ⟨(Nat.le_of_ble_eq_true rfl), (Nat.le_of_ble_eq_true rfl)⟩ rfl ?_
      refine ct_X10_goHour hc ?_
      show WF _ E Po _ _ _ _ _ _ _
      refine r_iadd (q := 31) dX10_doPass_30 rfl ?_
      refine r_istore_n (q := 32) dX10_doPass_31 rfl (Nat.le_of_ble_eq_true rfl) (xone_of rfl) rfl ?_
      refine r_iinc (q := 35) dX10_doPass_32 rfl (Nat.le_of_ble_eq_true rfl) (xone_of rfl) rfl ?_
      rw [show nI i + Int32.ofInt 1 = nI (i + 1) from nI_1 i]
      refine r_goto (q := 20) dX10_doPass_35 (by decide) ?_
      exact ih (i + 1) _ _ (by omega) (hc.kp Kp.rf.Hour) (by rw [show H - (i + 1) = z by omega]; exact hp) (by omega)
theorem ixH {x : Int32} (h : ¬ (x < 1 ∨ 48 < x)) : ∃ k, k ≤ 48 ∧ x = nI k := by
  obtain ⟨k, -, h2, h3⟩ := ixR (m := 48) (by decide) (fun z => h (Or.inl z)) (Int32.not_lt.mp (fun z => h (Or.inr z)))
  exact ⟨k, h2, h3⟩
set_option maxRecDepth 100000 in
set_option maxHeartbeats 4000000 in
theorem ct_X10_doPass {E : xE} {Po : xPo} {w : xW} {m : Nat} {d : xCo} {r : mRs} {o : Nat → Int32} {t : mTx} {x : Int32} {N : Nat} (hc : inH d N) (hp : Po (.inl (some (.int (mPass d x).2.1))) (md E w m (mPass d x).2.2 r (dO o (mPass d x).1 1 2) t)) : Ct M_X10_doPass E [.ref m, .int x] (md E w m d r o t) Po := by
  refine Ct.of (ws2 := xAll) (L := [some (.ref m), some (.int x), none, none]) (by decide +kernel) rfl rfl (List.forall_mem_cons.mpr ⟨rfl, List.forall_mem_cons.mpr ⟨rfl, fun _ h => absurd h List.not_mem_nil⟩⟩) (Nat.le_of_ble_eq_true rfl) rfl ?_
  unfold mPass at hp
  refine r_iload_n (q := 1) dX10_doPass_0 rfl rfl rfl ?_
  refine r_iconst (q := 2) (v := 1) dX10_doPass_1 rfl rfl ?_
  refine r_bipush (q := 4) (v := 48) dX10_doPass_2 (by decide) rfl ?_
  refine r_callS (q := 7) (As := [_, _, _]) dX10_doPass_4 s_X10_doPass_85 rfl rfl (Nat.le_of_ble_eq_true rfl) rfl rfl rfl (Nat.le_of_ble_eq_true rfl) (Nat.le_of_ble_eq_true rfl) ⟨(Nat.le_of_ble_eq_true rfl), (Nat.le_of_ble_eq_true rfl)⟩ rfl ?_
  refine ct_X10_in (fun hi => ?_) (fun hi => ?_)
  · show WF _ E Po _ _ _ _ _ _ _
    rw [if_neg hi] at hp
    obtain ⟨k, hk, rfl⟩ := ixH hi
    rw [nI_cl (by omega)] at hp
    refine r_if_ne (q := 16) (q2 := 10) dX10_doPass_7 (by decide) rfl (fun _ => ?_) (fun h9 => absurd h9 (by decide))
    refine r_iconst (q := 17) (v := 0) dX10_doPass_16 rfl rfl ?_
    refine r_istore_n (q := 18) dX10_doPass_17 rfl (Nat.le_of_ble_eq_true rfl) (xone_of rfl) rfl ?_
    refine r_iconst (q := 19) (v := 0) dX10_doPass_18 rfl rfl ?_
    refine r_istore_n (q := 20) dX10_doPass_19 rfl (Nat.le_of_ble_eq_true rfl) (xone_of rfl) rfl ?_
    exact lp_X10_doPass hk (k + 1) 0 _ _ (Nat.zero_le _) hc hp (by omega)
  · show WF _ E Po _ _ _ _ _ _ _
    rw [if_pos hi] at hp
    refine r_if_ne (q := 16) (q2 := 10) dX10_doPass_7 (by decide) rfl (fun h9 => absurd rfl h9) (fun _ => ?_)
    refine r_aload_n (q := 11) dX10_doPass_10 rfl rfl rfl ?_
    refine r_iconst (q := 12) (v := 1) dX10_doPass_11 rfl rfl ?_
    refine r_callV (q := 15) (ci := 12) (As := [_]) dX10_doPass_12 s_X10_doPass_104 md_g0 rfl rfl rfl (Nat.le_of_ble_eq_true rfl) rfl rfl rfl (Nat.le_of_ble_eq_true rfl) (Nat.le_of_ble_eq_true rfl) ⟨(Nat.le_of_ble_eq_true rfl), (Nat.le_of_ble_eq_true rfl)⟩ rfl ?_
    refine ct_X10_fails ?_
    show WF _ E Po _ _ _ _ _ _ _
    refine r_iret dX10_doPass_15 rfl (Nat.le_of_ble_eq_true rfl) (Nat.le_of_ble_eq_true rfl) ?_
    exact hp
set_option maxRecDepth 100000 in
set_option maxHeartbeats 4000000 in
theorem ct_X10_pass {E : xE} {Po : xPo} {w : xW} {m : Nat} {d : xCo} {r : mRs} {o : Nat → Int32} {t : mTx} {x : Int32} {n N : Nat} (hc : inH d N) (hn : n ≤ 8) (ho : o 1 = nI n) (hp : eP Po E w m o t r d n (mPass d x) 1 2) : Ct M_X10_pass E [.ref m, .int x] (md E w m d r o t) Po := by
  refine Ct.of (ws2 := xAll) (L := [some (.ref m), some (.int x)]) (by decide +kernel) rfl rfl (List.forall_mem_cons.mpr ⟨rfl, List.forall_mem_cons.mpr ⟨rfl, fun _ h => absurd h List.not_mem_nil⟩⟩) (Nat.le_of_ble_eq_true rfl) rfl ?_
  refine r_aload_n (q := 1) dX10_pass_0 rfl rfl rfl ?_
  refine r_callV (q := 4) (ci := 12) (As := []) dX10_pass_1 s_X10_pass_101 md_g0 rfl rfl rfl (Nat.le_of_ble_eq_true rfl) rfl rfl rfl (Nat.le_of_ble_eq_true rfl) (Nat.le_of_ble_eq_true rfl) ⟨(Nat.le_of_ble_eq_true rfl), (Nat.le_of_ble_eq_true rfl)⟩ rfl ?_
  refine ct_X10_keep ?_
  show WF _ E Po _ _ _ _ _ _ _
  refine r_aload_n (q := 5) dX10_pass_4 rfl rfl rfl ?_
  refine r_aload_n (q := 6) dX10_pass_5 rfl rfl rfl ?_
  refine r_iload_n (q := 7) dX10_pass_6 rfl rfl rfl ?_
  refine r_callV (q := 10) (ci := 12) (As := [_]) dX10_pass_7 s_X10_pass_189 md_g0 rfl rfl rfl (Nat.le_of_ble_eq_true rfl) rfl rfl rfl (Nat.le_of_ble_eq_true rfl) (Nat.le_of_ble_eq_true rfl) ⟨(Nat.le_of_ble_eq_true rfl), (Nat.le_of_ble_eq_true rfl)⟩ rfl ?_
  refine ct_X10_doPass hc ?_
  show WF _ E Po _ _ _ _ _ _ _
  refine r_callV (q := 13) (ci := 12) (As := [_]) dX10_pass_10 s_X10_pass_116 md_g0 rfl rfl rfl (Nat.le_of_ble_eq_true rfl) rfl rfl rfl (Nat.le_of_ble_eq_true rfl) (Nat.le_of_ble_eq_true rfl) ⟨(Nat.le_of_ble_eq_true rfl), (Nat.le_of_ble_eq_true rfl)⟩ rfl ?_
  refine ct_X10_ends (n := n) hn (dO_n.trans ho) ?_
  unfold eP at hp
  rcases Classical.em ((dO (upd o 2 0) (mPass d x).1 1 2) 2 ≤ 0) with e | e
  · rw [if_pos e] at hp
    rw [if_pos e]
    show WF _ E Po _ _ _ _ _ _ _
    refine r_iret dX10_pass_13 rfl (Nat.le_of_ble_eq_true rfl) (Nat.le_of_ble_eq_true rfl) ?_
    exact hp
  · rw [if_neg e] at hp
    rw [if_neg e]
    show WF _ E Po _ _ _ _ _ _ _
    refine r_iret dX10_pass_13 rfl (Nat.le_of_ble_eq_true rfl) (Nat.le_of_ble_eq_true rfl) ?_
    exact hp
