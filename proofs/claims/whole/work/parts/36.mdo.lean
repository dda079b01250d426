/-! ===== 36.mdo: what the reference does to its row (rows laid by wip/whole/gen/make36.py) ===== -/
theorem cT_s {c : xCo} {j k : Nat} {x : Int32} : (cT c j k x).2.1 j k = x := up2_s
theorem cU_s {c : xCo} {j k : Nat} {x : Int32} : (cU c j k x).2.2.1 j k = x := up2_s
theorem cG_s {c : xCo} {j k : Nat} {x : Int32} : (cG c j k x).2.2.2 j k = x := up2_s
/-- torn seams counted one by one -/
def tmS (x : Int32) : Nat → Int32
  | 0 => 0
  | n + 1 => tmS x n + (if x >>> (nI n &&& 31) &&& 1 = 0 then 0 else 1)
/-- the first row of a tub, a tent -/
def rowT (d : xCo) (j : Nat) (z : Int32) (n : Nat) : xCo := (d.1, (fun a k => if a = j ∧ k < n then (if k = 0 then z else if k = 1 then -1 else 0) else d.2.1 a k), d.2.2)
def rowU (d : xCo) (j : Nat) (z : Int32) (n : Nat) : xCo := (d.1, d.2.1, (fun a k => if a = j ∧ k < n then (if k = 0 then z else if k = 1 then -1 else if k = 2 then -1 else 0) else d.2.2.1 a k), d.2.2.2)
theorem rowT_0 {d : xCo} {j : Nat} {z : Int32} : rowT d j z 0 = d := by
  refine Prod.ext rfl (Prod.ext ?_ rfl)
  funext a k
  exact if_neg (fun h => absurd h.2 (Nat.not_lt_zero _))
theorem rowU_0 {d : xCo} {j : Nat} {z : Int32} : rowU d j z 0 = d := by
  refine Prod.ext rfl (Prod.ext rfl (Prod.ext ?_ rfl))
  funext a k
  exact if_neg (fun h => absurd h.2 (Nat.not_lt_zero _))
theorem rowT_s {d : xCo} {j n : Nat} {z : Int32} : cT (rowT d j z n) j n (if n = 0 then z else if n = 1 then -1 else 0) = rowT d j z (n + 1) := by
  refine Prod.ext rfl (Prod.ext ?_ rfl)
  funext a k
  show up2 (fun a k => if a = j ∧ k < n then _ else _) j n _ a k = (if a = j ∧ k < n + 1 then _ else _)
  by_cases e : a = j ∧ k = n
  · obtain ⟨rfl, rfl⟩ := e
    rw [up2_s, if_pos (show a = a ∧ k < k + 1 from ⟨rfl, by omega⟩)]
  · rw [up2_o e]
    by_cases h : a = j ∧ k < n
    · have h2 : a = j ∧ k < n + 1 := ⟨h.1, by omega⟩
      rw [if_pos h, if_pos h2]
    · have h2 : ¬ (a = j ∧ k < n + 1) := fun q => h ⟨q.1, by
        have h3 : k ≠ n := fun z => e ⟨q.1, z⟩
        omega⟩
      rw [if_neg h, if_neg h2]
theorem rowU_s {d : xCo} {j n : Nat} {z : Int32} : cU (rowU d j z n) j n (if n = 0 then z else if n = 1 then -1 else if n = 2 then -1 else 0) = rowU d j z (n + 1) := by
  refine Prod.ext rfl (Prod.ext rfl (Prod.ext ?_ rfl))
  funext a k
  show up2 (fun a k => if a = j ∧ k < n then _ else _) j n _ a k = (if a = j ∧ k < n + 1 then _ else _)
  by_cases e : a = j ∧ k = n
  · obtain ⟨rfl, rfl⟩ := e
    rw [up2_s, if_pos (show a = a ∧ k < k + 1 from ⟨rfl, by omega⟩)]
  · rw [up2_o e]
    by_cases h : a = j ∧ k < n
    · have h2 : a = j ∧ k < n + 1 := ⟨h.1, by omega⟩
      rw [if_pos h, if_pos h2]
    · have h2 : ¬ (a = j ∧ k < n + 1) := fun q => h ⟨q.1, by
        have h3 : k ≠ n := fun z => e ⟨q.1, z⟩
        omega⟩
      rw [if_neg h, if_neg h2]
/-- outcomes: 0 and the answer; -1 refused, -2 missing, -3 out of range -/
abbrev mOc : Type := Int32 × Int32 × xCo
def mTub (d : xCo) (z : Int32) : mOc := if z < 1 ∨ 3 < z then (-3, 0, d) else if d.1 1 = 8 then (-1, 0, cR d 1 8) else (0, d.1 1, cS (rowT d (d.1 1).toNatClampNeg z 7) 1 (d.1 1 + 1))
def mTent (d : xCo) (z : Int32) : mOc := if z < 0 ∨ 9 < z then (-3, 0, d) else if d.1 2 = 5 then (-1, 0, cR d 1 5) else (0, d.1 2, cS (rowU d (d.1 2).toNatClampNeg z 11) 2 (d.1 2 + 1))
def mHeater (d : xCo) : mOc := if d.1 3 = 4 then (-1, 0, cR d 1 4) else (0, d.1 3, cS (cG (cG d (d.1 3).toNatClampNeg 0 20) (d.1 3).toNatClampNeg 1 (-1)) 3 (d.1 3 + 1))
def mTear (d : xCo) (x s : Int32) : mOc := if okT d x then (if s < 0 ∨ 8 ≤ s then (-2, 0, d) else (0, tmS (d.2.1 x.toNatClampNeg 2 ||| (1 : Int32) <<< (s &&& 31)) 8, cT d x.toNatClampNeg 2 (d.2.1 x.toNatClampNeg 2 ||| (1 : Int32) <<< (s &&& 31)))) else (-2, 0, d)
def mMend (d : xCo) (x s : Int32) : mOc := if okT d x then (if s < 0 ∨ 8 ≤ s then (-2, 0, d) else if d.2.1 x.toNatClampNeg 2 >>> (s &&& 31) &&& 1 = 0 then (-1, 0, cR d 11 s) else if d.2.1 x.toNatClampNeg 3 ≤ 0 then (if 2 ≤ d.1 7 then (0, tmS (d.2.1 x.toNatClampNeg 2 &&& ((1 : Int32) <<< (s &&& 31) ^^^ -1)) 8, cT (cS d 7 (d.1 7 - 2)) x.toNatClampNeg 2 (d.2.1 x.toNatClampNeg 2 &&& ((1 : Int32) <<< (s &&& 31) ^^^ -1))) else (-1, 0, cR d 12 (2 - d.1 7))) else (-1, 0, cR d 14 (d.2.1 x.toNatClampNeg 3))) else (-2, 0, d)
def mOut (d : xCo) (x u : Int32) : mOc := if okT d x then (if okU d u then (if d.2.1 x.toNatClampNeg 1 < 0 then (if d.2.1 x.toNatClampNeg 2 = 0 then (if d.2.2.1 u.toNatClampNeg 1 < 0 then (0, d.1 7 + 2 * d.2.1 x.toNatClampNeg 0, cU (cT (cT (cT (cS d 7 (d.1 7 + 2 * d.2.1 x.toNatClampNeg 0)) x.toNatClampNeg 1 u) x.toNatClampNeg 3 0) x.toNatClampNeg 5 0) u.toNatClampNeg 1 x) else (-1, 0, cR d 4 (d.2.2.1 u.toNatClampNeg 1))) else (-1, 0, cR d 3 (tfS (d.2.1 x.toNatClampNeg 2) 8 0))) else (-1, 0, cR d 2 (d.2.1 x.toNatClampNeg 1))) else (-2, 0, d)) else (-2, 0, d)
def mBack (d : xCo) (x : Int32) : mOc := if okT d x then (if 0 ≤ d.2.1 x.toNatClampNeg 1 then (0, d.2.1 x.toNatClampNeg 3, cU (cT (cT (cT d x.toNatClampNeg 1 (-1)) x.toNatClampNeg 3 0) x.toNatClampNeg 5 0) (d.2.1 x.toNatClampNeg 1).toNatClampNeg 1 (-1)) else (-1, 0, cR d 5 x)) else (-2, 0, d)
def mJoin (d : xCo) (x : Int32) : mOc := if okU d x then (if d.2.2.1 x.toNatClampNeg 4 = 6 then (-1, 0, cR d 1 6) else if 0 ≤ d.2.2.1 x.toNatClampNeg 1 then (if d.1 4 = 0 then (-1, 0, cR d 10 (d.1 5)) else (0, d.1 8 + 1 - 1, cS (cU (cU (cS d 4 (d.1 4 - 1)) x.toNatClampNeg (5 + (d.2.2.1 x.toNatClampNeg 4).toNatClampNeg) (d.1 8)) x.toNatClampNeg 4 (d.2.2.1 x.toNatClampNeg 4 + 1)) 8 (d.1 8 + 1))) else (-1, 0, cR d 6 x)) else (-2, 0, d)
def mHeat (d : xCo) (h u : Int32) : mOc := if okG d h then (if okU d u then (if d.2.2.2 h.toNatClampNeg 1 < 0 then (if d.2.2.1 u.toNatClampNeg 2 < 0 then (0, d.2.2.2 h.toNatClampNeg 0, cU (cG d h.toNatClampNeg 1 u) u.toNatClampNeg 2 h) else (-1, 0, cR d 8 (d.2.2.1 u.toNatClampNeg 2))) else (-1, 0, cR d 7 (d.2.2.2 h.toNatClampNeg 1))) else (-2, 0, d)) else (-2, 0, d)
def mCold (d : xCo) (h : Int32) : mOc := if okG d h then (if 0 ≤ d.2.2.2 h.toNatClampNeg 1 then (0, d.2.2.2 h.toNatClampNeg 1, cU (cG d h.toNatClampNeg 1 (-1)) (d.2.2.2 h.toNatClampNeg 1).toNatClampNeg 2 (-1)) else (-1, 0, cR d 9 h)) else (-2, 0, d)
def mGas (d : xCo) (h x : Int32) : mOc := if okG d h then (if x < 1 ∨ 12 < x then (-3, 0, d) else if x ≤ d.1 7 then (0, mn 60 (d.2.2.2 h.toNatClampNeg 0 + 5 * x), cG (cS d 7 (d.1 7 - x)) h.toNatClampNeg 0 (mn 60 (d.2.2.2 h.toNatClampNeg 0 + 5 * x))) else (-1, 0, cR d 12 (x - d.1 7))) else (-2, 0, d)
def mWash (d : xCo) (x : Int32) : mOc := if x < 1 ∨ 20 < x then (-3, 0, d) else if mn x (d.1 5) = 0 then (-1, 0, cR d 13 0) else if mn x (d.1 5) ≤ d.1 7 then (0, mn x (d.1 5), cS (cS (cS d 7 (d.1 7 - mn x (d.1 5))) 5 (d.1 5 - mn x (d.1 5))) 4 (d.1 4 + mn x (d.1 5))) else (-1, 0, cR d 12 (mn x (d.1 5) - d.1 7))
def mSoap (d : xCo) (x : Int32) : mOc := if x < 1 ∨ 20 < x then (-3, 0, d) else if mn x (99 - d.1 6) ≤ d.1 7 then (0, d.1 6 + mn x (99 - d.1 6), cS (cS d 7 (d.1 7 - mn x (99 - d.1 6))) 6 (d.1 6 + mn x (99 - d.1 6))) else (-1, 0, cR d 12 (mn x (99 - d.1 6) - d.1 7))
/-- what an outcome leaves in the object -/
def dO (o : Nat → Int32) (a a3 a1 : Int32) : Nat → Int32 := if a = -1 then upd (upd o 2 a1) 5 1 else if a = -2 then upd o 2 1 else if a = -3 then upd o 2 a3 else o
theorem dO_0 {o : Nat → Int32} {a3 a1 : Int32} : dO o 0 a3 a1 = o := (if_neg (by decide)).trans ((if_neg (by decide)).trans (if_neg (by decide)))
theorem dO_1 {o : Nat → Int32} {a3 a1 : Int32} : dO o (-1) a3 a1 = upd (upd o 2 a1) 5 1 := if_pos rfl
theorem dO_2 {o : Nat → Int32} {a3 a1 : Int32} : dO o (-2) a3 a1 = upd o 2 1 := (if_neg (by decide)).trans (if_pos rfl)
theorem dO_3 {o : Nat → Int32} {a3 a1 : Int32} : dO o (-3) a3 a1 = upd o 2 a3 := (if_neg (by decide)).trans ((if_neg (by decide)).trans (if_pos rfl))
/-- what the reference's places hold: numbers of tubs, tents, heaters, or none -/
def inP (d : xCo) : Prop := inC d ∧ (∀ j, j < 8 → 0 ≤ d.2.1 j 1 → ∃ u, u < 5 ∧ d.2.1 j 1 = nI u) ∧ (∀ u, u < 5 → 0 ≤ d.2.2.1 u 1 → ∃ j, j < 8 ∧ d.2.2.1 u 1 = nI j) ∧ (∀ u, u < 5 → 0 ≤ d.2.2.1 u 2 → ∃ g, g < 4 ∧ d.2.2.1 u 2 = nI g) ∧ (∀ g, g < 4 → 0 ≤ d.2.2.2 g 1 → ∃ u, u < 5 ∧ d.2.2.2 g 1 = nI u)
set_option maxRecDepth 100000 in
set_option maxHeartbeats 4000000 in
theorem lp_X10_tornMany {E : xE} {Po : xPo} {w0 w : xW} {m : Nat} {d : xCo} {r : mRs} {o : Nat → Int32} {t : mTx} {j : Nat} (hj : j < 8) (n9 : Nat) : ∀ (k : Nat) (hk : k ≤ 8) (hp : Po (.inl (some (.int (tmS (d.2.1 j 2) 8)))) (md E w m d r o t)) (hn9 : 8 - k < n9), WF M_X10_tornMany E Po w0 4 [some (.ref m), some (.int (nI j)), some (.int (tmS (d.2.1 j 2) k)), some (.int (nI k))] [] (md E w m d r o t) 0 0 := by
  induction n9 with
  | zero => intro k hk hp hn9; exact absurd hn9 (Nat.not_lt_zero _)
  | succ n9 ih =>
    intro k hk hp hn9
    refine r_iload_n (q := 5) dX10_tornMany_4 rfl rfl rfl ?_
    refine r_bipush (q := 7) (v := 8) dX10_tornMany_5 (by decide) rfl ?_
    refine r_icmp_ge (q := 33) (q2 := 10) dX10_tornMany_7 (by decide) rfl (fun h7 => ?_) (fun h7 => ?_)
    · obtain rfl : k = 8 := by have := (nI_leI (a := 8) (by omega) (by omega)).mp h7; omega
      refine r_iload_n (q := 34) dX10_tornMany_33 rfl rfl rfl ?_
      refine r_iret dX10_tornMany_34 rfl (Nat.le_of_ble_eq_true rfl) (Nat.le_of_ble_eq_true rfl) ?_
      exact hp
    · have h77 : ¬ 8 ≤ k := fun q => h7 ((nI_leI (a := 8) (by omega) (by omega)).mpr q)
      refine r_iload_n (q := 11) dX10_tornMany_10 rfl rfl rfl ?_
      refine r_aload_n (q := 12) dX10_tornMany_11 rfl rfl rfl ?_
      refine r_iload_n (q := 13) dX10_tornMany_12 rfl rfl rfl ?_
      refine r_iload_n (q := 14) dX10_tornMany_13 rfl rfl rfl ?_
      refine r_callV (q := 17) (ci := 12) (As := [_, _]) dX10_tornMany_14 s_X10_tornMany_97 md_g0 rfl rfl rfl (Nat.le_of_ble_eq_true rfl) rfl rfl rfl (Nat.le_of_ble_eq_true rfl) (Nat.le_of_ble_eq_true rfl) ⟨(Nat.le_of_ble_eq_true rfl), (Nat.le_of_ble_eq_true rfl)⟩ rfl ?_
      refine ct_X10_isTorn hj (fun hb => ?_) (fun hb => ?_)
      · show WF _ E Po _ _ _ _ _ _ _
        have hs : tmS (d.2.1 j 2) k + 1 = tmS (d.2.1 j 2) (k + 1) := by rw [tmS, if_neg hb]
        refine r_if_eq (q := 24) (q2 := 20) dX10_tornMany_17 (by decide) rfl (fun h9 => absurd h9 (by decide)) (fun _ => ?_)
        refine r_iconst (q := 21) (v := 1) dX10_tornMany_20 rfl rfl ?_
        refine r_goto (q := 25) dX10_tornMany_21 (by decide) ?_
        refine r_iadd (q := 26) dX10_tornMany_25 rfl ?_
        refine r_istore_n (q := 27) dX10_tornMany_26 rfl (Nat.le_of_ble_eq_true rfl) (xone_of rfl) rfl ?_
        refine r_iinc (q := 30) dX10_tornMany_27 rfl (Nat.le_of_ble_eq_true rfl) (xone_of rfl) rfl ?_
        rw [hs, show nI k + Int32.ofInt 1 = nI (k + 1) from nI_1 k]
        refine r_goto (q := 4) dX10_tornMany_30 (by decide) ?_
        exact ih (k + 1) (by omega) hp (by omega)
      · show WF _ E Po _ _ _ _ _ _ _
        have hs : tmS (d.2.1 j 2) k + 0 = tmS (d.2.1 j 2) (k + 1) := by rw [tmS, if_pos hb]
        refine r_if_eq (q := 24) (q2 := 20) dX10_tornMany_17 (by decide) rfl (fun _ => ?_) (fun h9 => absurd rfl h9)
        refine r_iconst (q := 25) (v := 0) dX10_tornMany_24 rfl rfl ?_
        refine r_iadd (q := 26) dX10_tornMany_25 rfl ?_
        refine r_istore_n (q := 27) dX10_tornMany_26 rfl (Nat.le_of_ble_eq_true rfl) (xone_of rfl) rfl ?_
        refine r_iinc (q := 30) dX10_tornMany_27 rfl (Nat.le_of_ble_eq_true rfl) (xone_of rfl) rfl ?_
        rw [hs, show nI k + Int32.ofInt 1 = nI (k + 1) from nI_1 k]
        refine r_goto (q := 4) dX10_tornMany_30 (by decide) ?_
        exact ih (k + 1) (by omega) hp (by omega)
set_option maxRecDepth 100000 in
set_option maxHeartbeats 4000000 in
theorem ct_X10_tornMany {E : xE} {Po : xPo} {w : xW} {m : Nat} {d : xCo} {r : mRs} {o : Nat → Int32} {t : mTx} {j : Nat} (hj : j < 8) (hp : Po (.inl (some (.int (tmS (d.2.1 j 2) 8)))) (md E w m d r o t)) : Ct M_X10_tornMany E [.ref m, .int (nI j)] (md E w m d r o t) Po := by
  refine Ct.of (ws2 := xAll) (L := [some (.ref m), some (.int (nI j)), none, none]) (by decide +kernel) rfl rfl (List.forall_mem_cons.mpr ⟨rfl, List.forall_mem_cons.mpr ⟨rfl, fun _ h => absurd h List.not_mem_nil⟩⟩) (Nat.le_of_ble_eq_true rfl) rfl ?_
  refine r_iconst (q := 1) (v := 0) dX10_tornMany_0 rfl rfl ?_
  refine r_istore_n (q := 2) dX10_tornMany_1 rfl (Nat.le_of_ble_eq_true rfl) (xone_of rfl) rfl ?_
  refine r_iconst (q := 3) (v := 0) dX10_tornMany_2 rfl rfl ?_
  refine r_istore_n (q := 4) dX10_tornMany_3 rfl (Nat.le_of_ble_eq_true rfl) (xone_of rfl) rfl ?_
  exact lp_X10_tornMany hj 9 0 (by omega) hp (by omega)
set_option maxRecDepth 100000 in
set_option maxHeartbeats 4000000 in
theorem lp_X10_firstTorn {E : xE} {Po : xPo} {w0 w : xW} {m : Nat} {d : xCo} {r : mRs} {o : Nat → Int32} {t : mTx} {j : Nat} {s0 : Int32} (hj : j < 8) (n9 : Nat) : ∀ (k : Nat) (hk : k ≤ 8) (hp : Po (.inl (some (.int (tfS (d.2.1 j 2) (8 - k) k)))) (md E w m d r o t)) (hn9 : 8 - k < n9), WF M_X10_firstTorn E Po w0 2 [some (.ref m), some (.int (nI j)), some (.int s0), some (.int (nI k))] [] (md E w m d r o t) 0 0 := by
  induction n9 with
  | zero => intro k hk hp hn9; exact absurd hn9 (Nat.not_lt_zero _)
  | succ n9 ih =>
    intro k hk hp hn9
    refine r_iload_n (q := 3) dX10_firstTorn_2 rfl rfl rfl ?_
    refine r_bipush (q := 5) (v := 8) dX10_firstTorn_3 (by decide) rfl ?_
    refine r_icmp_ge (q := 25) (q2 := 8) dX10_firstTorn_5 (by decide) rfl (fun h5 => ?_) (fun h5 => ?_)
    · obtain rfl : k = 8 := by have := (nI_leI (a := 8) (by omega) (by omega)).mp h5; omega
      refine r_iconst (q := 26) (v := (-1)) dX10_firstTorn_25 rfl rfl ?_
      refine r_iret dX10_firstTorn_26 rfl (Nat.le_of_ble_eq_true rfl) (Nat.le_of_ble_eq_true rfl) ?_
      exact hp
    · have h55 : ¬ 8 ≤ k := fun q => h5 ((nI_leI (a := 8) (by omega) (by omega)).mpr q)
      obtain ⟨z, hz⟩ : ∃ z, 8 - k = z + 1 := ⟨8 - k - 1, by omega⟩
      rw [hz, tfS] at hp
      refine r_aload_n (q := 9) dX10_firstTorn_8 rfl rfl rfl ?_
      refine r_iload_n (q := 10) dX10_firstTorn_9 rfl rfl rfl ?_
      refine r_iload_n (q := 11) dX10_firstTorn_10 rfl rfl rfl ?_
      refine r_callV (q := 14) (ci := 12) (As := [_, _]) dX10_firstTorn_11 s_X10_firstTorn_97 md_g0 rfl rfl rfl (Nat.le_of_ble_eq_true rfl) rfl rfl rfl (Nat.le_of_ble_eq_true rfl) (Nat.le_of_ble_eq_true rfl) ⟨(Nat.le_of_ble_eq_true rfl), (Nat.le_of_ble_eq_true rfl)⟩ rfl ?_
      refine ct_X10_isTorn hj (fun hb => ?_) (fun hb => ?_)
      · show WF _ E Po _ _ _ _ _ _ _
        rw [if_neg hb] at hp
        refine r_if_eq (q := 19) (q2 := 17) dX10_firstTorn_14 (by decide) rfl (fun h9 => absurd h9 (by decide)) (fun _ => ?_)
        refine r_iload_n (q := 18) dX10_firstTorn_17 rfl rfl rfl ?_
        refine r_iret dX10_firstTorn_18 rfl (Nat.le_of_ble_eq_true rfl) (Nat.le_of_ble_eq_true rfl) ?_
        exact hp
      · show WF _ E Po _ _ _ _ _ _ _
        rw [if_pos hb] at hp
        refine r_if_eq (q := 19) (q2 := 17) dX10_firstTorn_14 (by decide) rfl (fun _ => ?_) (fun h9 => absurd rfl h9)
        refine r_iinc (q := 22) dX10_firstTorn_19 rfl (Nat.le_of_ble_eq_true rfl) (xone_of rfl) rfl ?_
        rw [show nI k + Int32.ofInt 1 = nI (k + 1) from nI_1 k]
        refine r_goto (q := 2) dX10_firstTorn_22 (by decide) ?_
        exact ih (k + 1) (by omega) (by rw [show 8 - (k + 1) = z by omega]; exact hp) (by omega)
set_option maxRecDepth 100000 in
set_option maxHeartbeats 4000000 in
theorem ct_X10_firstTorn {E : xE} {Po : xPo} {w : xW} {m : Nat} {d : xCo} {r : mRs} {o : Nat → Int32} {t : mTx} {j k : Nat} (hj : j < 8) (hk : k ≤ 8) (hp : Po (.inl (some (.int (tfS (d.2.1 j 2) (8 - k) k)))) (md E w m d r o t)) : Ct M_X10_firstTorn E [.ref m, .int (nI j), .int (nI k)] (md E w m d r o t) Po := by
  refine Ct.of (ws2 := xAll) (L := [some (.ref m), some (.int (nI j)), some (.int (nI k)), none]) (by decide +kernel) rfl rfl (List.forall_mem_cons.mpr ⟨rfl, List.forall_mem_cons.mpr ⟨rfl, List.forall_mem_cons.mpr ⟨rfl, fun _ h => absurd h List.not_mem_nil⟩⟩⟩) (Nat.le_of_ble_eq_true rfl) rfl ?_
  refine r_iload_n (q := 1) dX10_firstTorn_0 rfl rfl rfl ?_
  refine r_istore_n (q := 2) dX10_firstTorn_1 rfl (Nat.le_of_ble_eq_true rfl) (xone_of rfl) rfl ?_
  exact lp_X10_firstTorn hj 9 k hk hp (by omega)
set_option maxRecDepth 100000 in
set_option maxHeartbeats 4000000 in
theorem ct_X10_doMend {E : xE} {Po : xPo} {w : xW} {m : Nat} {d : xCo} {r : mRs} {o : Nat → Int32} {t : mTx} {x s : Int32} (hc : inP d) (hp : Po (.inl (some (.int (mMend d x s).2.1))) (md E w m (mMend d x s).2.2 r (dO o (mMend d x s).1 1 2) t)) : Ct M_X10_doMend E [.ref m, .int x, .int s] (md E w m d r o t) Po := by
  refine Ct.of (ws2 := xAll) (L := [some (.ref m), some (.int x), some (.int s)]) (by decide +kernel) rfl rfl (List.forall_mem_cons.mpr ⟨rfl, List.forall_mem_cons.mpr ⟨rfl, List.forall_mem_cons.mpr ⟨rfl, fun _ h => absurd h List.not_mem_nil⟩⟩⟩) (Nat.le_of_ble_eq_true rfl) rfl ?_
  unfold mMend at hp
  refine r_aload_n (q := 1) dX10_doMend_0 rfl rfl rfl ?_
  refine r_iload_n (q := 2) dX10_doMend_1 rfl rfl rfl ?_
  refine r_iload_n (q := 3) dX10_doMend_2 rfl rfl rfl ?_
  refine r_callV (q := 6) (ci := 12) (As := [_, _]) dX10_doMend_3 s_X10_doMend_119 md_g0 rfl rfl rfl (Nat.le_of_ble_eq_true rfl) rfl rfl rfl (Nat.le_of_ble_eq_true rfl) (Nat.le_of_ble_eq_true rfl) ⟨(Nat.le_of_ble_eq_true rfl), (Nat.le_of_ble_eq_true rfl)⟩ rfl ?_
  refine ct_X10_isSeam hc.1 (fun hx hs => ?_) (fun hx hs => ?_) (fun hx => ?_)
  · show WF _ E Po _ _ _ _ _ _ _
    rw [if_pos hx, if_neg hs] at hp
    obtain ⟨j, hj, rfl⟩ := hx.ix
    rw [nI_cl (by omega)] at hp
    refine r_if_ne (q := 15) (q2 := 9) dX10_doMend_6 (by decide) rfl (fun _ => ?_) (fun h9 => absurd h9 (by decide))
    refine r_aload_n (q := 16) dX10_doMend_15 rfl rfl rfl ?_
    refine r_iload_n (q := 17) dX10_doMend_16 rfl rfl rfl ?_
    refine r_iload_n (q := 18) dX10_doMend_17 rfl rfl rfl ?_
    refine r_callV (q := 21) (ci := 12) (As := [_, _]) dX10_doMend_18 s_X10_doMend_97 md_g0 rfl rfl rfl (Nat.le_of_ble_eq_true rfl) rfl rfl rfl (Nat.le_of_ble_eq_true rfl) (Nat.le_of_ble_eq_true rfl) ⟨(Nat.le_of_ble_eq_true rfl), (Nat.le_of_ble_eq_true rfl)⟩ rfl ?_
    refine ct_X10_isTorn hj (fun hb => ?_) (fun hb => ?_)
    · show WF _ E Po _ _ _ _ _ _ _
      rw [if_neg hb] at hp
      refine r_if_ne (q := 33) (q2 := 24) dX10_doMend_21 (by decide) rfl (fun _ => ?_) (fun h9 => absurd h9 (by decide))
      refine r_aload_n (q := 34) dX10_doMend_33 rfl rfl rfl ?_
      refine r_iload_n (q := 35) dX10_doMend_34 rfl rfl rfl ?_
      refine r_iconst (q := 36) (v := 3) dX10_doMend_35 rfl rfl ?_
      refine r_callV (q := 39) (ci := 12) (As := [_, _]) dX10_doMend_36 s_X10_doMend_93 md_g0 rfl rfl rfl (Nat.le_of_ble_eq_true rfl) rfl rfl rfl (Nat.le_of_ble_eq_true rfl) (Nat.le_of_ble_eq_true rfl) ⟨(Nat.le_of_ble_eq_true rfl), (Nat.le_of_ble_eq_true rfl)⟩ rfl ?_
      refine ct_X10_tub1 (k := 3) hj (by decide) ?_
      show WF _ E Po _ _ _ _ _ _ _
      refine r_if_le (q := 56) (q2 := 42) dX10_doMend_39 (by decide) rfl (fun h39 => ?_) (fun h39 => ?_)
      · rw [if_pos h39] at hp
        refine r_aload_n (q := 57) dX10_doMend_56 rfl rfl rfl ?_
        refine r_getfield (q := 60) dX10_doMend_57 f_X10_doMend_9 md_g0 rfl rfl ?_
        refine r_bipush (q := 62) (v := 7) dX10_doMend_60 (by decide) rfl ?_
        refine r_ldS (q := 63) (k := 7) dX10_doMend_62 (by decide) rfl ?_
        refine r_iconst (q := 64) (v := 2) dX10_doMend_63 rfl rfl ?_
        refine r_icmp_ge (q := 84) (q2 := 67) dX10_doMend_64 (by decide) rfl (fun h64 => ?_) (fun h64 => ?_)
        · rw [if_pos h64] at hp
          refine r_aload_n (q := 85) dX10_doMend_84 rfl rfl rfl ?_
          refine r_getfield (q := 88) dX10_doMend_85 f_X10_doMend_9 md_g0 rfl rfl ?_
          refine r_bipush (q := 90) (v := 7) dX10_doMend_88 (by decide) rfl ?_
          refine r_dup2 (q := 91) dX10_doMend_90 rfl rfl rfl ?_
          refine r_ldS (q := 92) (k := 7) dX10_doMend_91 (by decide) rfl ?_
          refine r_iconst (q := 93) (v := 2) dX10_doMend_92 rfl rfl ?_
          refine r_isub (q := 94) dX10_doMend_93 rfl ?_
          refine r_stS (q := 95) (k := 7) dX10_doMend_94 (by decide) rfl ?_
          refine r_aload_n (q := 96) dX10_doMend_95 rfl rfl rfl ?_
          refine r_iload_n (q := 97) dX10_doMend_96 rfl rfl rfl ?_
          refine r_iconst (q := 98) (v := 2) dX10_doMend_97 rfl rfl ?_
          refine r_aload_n (q := 99) dX10_doMend_98 rfl rfl rfl ?_
          refine r_iload_n (q := 100) dX10_doMend_99 rfl rfl rfl ?_
          refine r_iconst (q := 101) (v := 2) dX10_doMend_100 rfl rfl ?_
          refine r_callV (q := 104) (ci := 12) (As := [_, _]) dX10_doMend_101 s_X10_doMend_93 md_g0 rfl rfl rfl (Nat.le_of_ble_eq_true rfl) rfl rfl rfl (Nat.le_of_ble_eq_true rfl) (Nat.le_of_ble_eq_true rfl) ⟨(Nat.le_of_ble_eq_true rfl), (Nat.le_of_ble_eq_true rfl)⟩ rfl ?_
          refine ct_X10_tub1 (k := 2) hj (by decide) ?_
          show WF _ E Po _ _ _ _ _ _ _
          refine r_iconst (q := 105) (v := 1) dX10_doMend_104 rfl rfl ?_
          refine r_iload_n (q := 106) dX10_doMend_105 rfl rfl rfl ?_
          refine r_ishl (q := 107) dX10_doMend_106 rfl ?_
          refine r_iconst (q := 108) (v := (-1)) dX10_doMend_107 rfl rfl ?_
          refine r_ixor (q := 109) dX10_doMend_108 rfl ?_
          refine r_iand (q := 110) dX10_doMend_109 rfl ?_
          refine r_callV (q := 113) (ci := 12) (As := [_, _, _]) dX10_doMend_110 s_X10_doMend_112 md_g0 rfl rfl rfl (Nat.le_of_ble_eq_true rfl) rfl rfl rfl (Nat.le_of_ble_eq_true rfl) (Nat.le_of_ble_eq_true rfl) ⟨(Nat.le_of_ble_eq_true rfl), (Nat.le_of_ble_eq_true rfl)⟩ rfl ?_
          refine ct_X10_setTub (k := 2) hj (by decide) ?_
          show WF _ E Po _ _ _ _ _ _ _
          refine r_aload_n (q := 114) dX10_doMend_113 rfl rfl rfl ?_
          refine r_iload_n (q := 115) dX10_doMend_114 rfl rfl rfl ?_
          refine r_callV (q := 118) (ci := 12) (As := [_]) dX10_doMend_115 s_X10_doMend_125 md_g0 rfl rfl rfl (Nat.le_of_ble_eq_true rfl) rfl rfl rfl (Nat.le_of_ble_eq_true rfl) (Nat.le_of_ble_eq_true rfl) ⟨(Nat.le_of_ble_eq_true rfl), (Nat.le_of_ble_eq_true rfl)⟩ rfl ?_
          refine ct_X10_tornMany hj ?_
          show WF _ E Po _ _ _ _ _ _ _
          rw [cT_s]
          refine r_iret dX10_doMend_118 rfl (Nat.le_of_ble_eq_true rfl) (Nat.le_of_ble_eq_true rfl) ?_
          exact hp
        · rw [if_neg h64] at hp
          refine r_aload_n (q := 68) dX10_doMend_67 rfl rfl rfl ?_
          refine r_iconst (q := 69) (v := 2) dX10_doMend_68 rfl rfl ?_
          refine r_bipush (q := 71) (v := 12) dX10_doMend_69 (by decide) rfl ?_
          refine r_iconst (q := 72) (v := 2) dX10_doMend_71 rfl rfl ?_
          refine r_aload_n (q := 73) dX10_doMend_72 rfl rfl rfl ?_
          refine r_getfield (q := 76) dX10_doMend_73 f_X10_doMend_9 md_g0 rfl rfl ?_
          refine r_bipush (q := 78) (v := 7) dX10_doMend_76 (by decide) rfl ?_
          refine r_ldS (q := 79) (k := 7) dX10_doMend_78 (by decide) rfl ?_
          refine r_isub (q := 80) dX10_doMend_79 rfl ?_
          refine r_callV (q := 83) (ci := 12) (As := [_, _, _]) dX10_doMend_80 s_X10_doMend_108 md_g0 rfl rfl rfl (Nat.le_of_ble_eq_true rfl) rfl rfl rfl (Nat.le_of_ble_eq_true rfl) (Nat.le_of_ble_eq_true rfl) ⟨(Nat.le_of_ble_eq_true rfl), (Nat.le_of_ble_eq_true rfl)⟩ rfl ?_
          refine ct_X10_refuse ?_
          show WF _ E Po _ _ _ _ _ _ _
          refine r_iret dX10_doMend_83 rfl (Nat.le_of_ble_eq_true rfl) (Nat.le_of_ble_eq_true rfl) ?_
          exact hp
      · rw [if_neg h39] at hp
        refine r_aload_n (q := 43) dX10_doMend_42 rfl rfl rfl ?_
        refine r_iconst (q := 44) (v := 2) dX10_doMend_43 rfl rfl ?_
        refine r_bipush (q := 46) (v := 14) dX10_doMend_44 (by decide) rfl ?_
        refine r_aload_n (q := 47) dX10_doMend_46 rfl rfl rfl ?_
        refine r_iload_n (q := 48) dX10_doMend_47 rfl rfl rfl ?_
        refine r_iconst (q := 49) (v := 3) dX10_doMend_48 rfl rfl ?_
        refine r_callV (q := 52) (ci := 12) (As := [_, _]) dX10_doMend_49 s_X10_doMend_93 md_g0 rfl rfl rfl (Nat.le_of_ble_eq_true rfl) rfl rfl rfl (Nat.le_of_ble_eq_true rfl) (Nat.le_of_ble_eq_true rfl) ⟨(Nat.le_of_ble_eq_true rfl), (Nat.le_of_ble_eq_true rfl)⟩ rfl ?_
        refine ct_X10_tub1 (k := 3) hj (by decide) ?_
        show WF _ E Po _ _ _ _ _ _ _
        refine r_callV (q := 55) (ci := 12) (As := [_, _, _]) dX10_doMend_52 s_X10_doMend_108 md_g0 rfl rfl rfl (Nat.le_of_ble_eq_true rfl) rfl rfl rfl (Nat.le_of_ble_eq_true rfl) (Nat.le_of_ble_eq_true rfl) ⟨(Nat.le_of_ble_eq_true rfl), (Nat.le_of_ble_eq_true rfl)⟩ rfl ?_
        refine ct_X10_refuse ?_
        show WF _ E Po _ _ _ _ _ _ _
        refine r_iret dX10_doMend_55 rfl (Nat.le_of_ble_eq_true rfl) (Nat.le_of_ble_eq_true rfl) ?_
        exact hp
    · show WF _ E Po _ _ _ _ _ _ _
      rw [if_pos hb] at hp
      refine r_if_ne (q := 33) (q2 := 24) dX10_doMend_21 (by decide) rfl (fun h9 => absurd rfl h9) (fun _ => ?_)
      refine r_aload_n (q := 25) dX10_doMend_24 rfl rfl rfl ?_
      refine r_iconst (q := 26) (v := 2) dX10_doMend_25 rfl rfl ?_
      refine r_bipush (q := 28) (v := 11) dX10_doMend_26 (by decide) rfl ?_
      refine r_iload_n (q := 29) dX10_doMend_28 rfl rfl rfl ?_
      refine r_callV (q := 32) (ci := 12) (As := [_, _, _]) dX10_doMend_29 s_X10_doMend_108 md_g0 rfl rfl rfl (Nat.le_of_ble_eq_true rfl) rfl rfl rfl (Nat.le_of_ble_eq_true rfl) (Nat.le_of_ble_eq_true rfl) ⟨(Nat.le_of_ble_eq_true rfl), (Nat.le_of_ble_eq_true rfl)⟩ rfl ?_
      refine ct_X10_refuse ?_
      show WF _ E Po _ _ _ _ _ _ _
      refine r_iret dX10_doMend_32 rfl (Nat.le_of_ble_eq_true rfl) (Nat.le_of_ble_eq_true rfl) ?_
      exact hp
  · show WF _ E Po _ _ _ _ _ _ _
    rw [if_pos hx, if_pos hs] at hp
    refine r_if_ne (q := 15) (q2 := 9) dX10_doMend_6 (by decide) rfl (fun h9 => absurd rfl h9) (fun _ => ?_)
    refine r_aload_n (q := 10) dX10_doMend_9 rfl rfl rfl ?_
    refine r_iconst (q := 11) (v := 1) dX10_doMend_10 rfl rfl ?_
    refine r_callV (q := 14) (ci := 12) (As := [_]) dX10_doMend_11 s_X10_doMend_104 md_g0 rfl rfl rfl (Nat.le_of_ble_eq_true rfl) rfl rfl rfl (Nat.le_of_ble_eq_true rfl) (Nat.le_of_ble_eq_true rfl) ⟨(Nat.le_of_ble_eq_true rfl), (Nat.le_of_ble_eq_true rfl)⟩ rfl ?_
    refine ct_X10_fails ?_
    show WF _ E Po _ _ _ _ _ _ _
    refine r_iret dX10_doMend_14 rfl (Nat.le_of_ble_eq_true rfl) (Nat.le_of_ble_eq_true rfl) ?_
    exact hp
  · show WF _ E Po _ _ _ _ _ _ _
    rw [if_neg hx] at hp
    refine r_if_ne (q := 15) (q2 := 9) dX10_doMend_6 (by decide) rfl (fun h9 => absurd rfl h9) (fun _ => ?_)
    refine r_aload_n (q := 10) dX10_doMend_9 rfl rfl rfl ?_
    refine r_iconst (q := 11) (v := 1) dX10_doMend_10 rfl rfl ?_
    refine r_callV (q := 14) (ci := 12) (As := [_]) dX10_doMend_11 s_X10_doMend_104 md_g0 rfl rfl rfl (Nat.le_of_ble_eq_true rfl) rfl rfl rfl (Nat.le_of_ble_eq_true rfl) (Nat.le_of_ble_eq_true rfl) ⟨(Nat.le_of_ble_eq_true rfl), (Nat.le_of_ble_eq_true rfl)⟩ rfl ?_
    refine ct_X10_fails ?_
    show WF _ E Po _ _ _ _ _ _ _
    refine r_iret dX10_doMend_14 rfl (Nat.le_of_ble_eq_true rfl) (Nat.le_of_ble_eq_true rfl) ?_
    exact hp
set_option maxRecDepth 100000 in
set_option maxHeartbeats 4000000 in
theorem ct_X10_doOut {E : xE} {Po : xPo} {w : xW} {m : Nat} {d : xCo} {r : mRs} {o : Nat → Int32} {t : mTx} {x u : Int32} (hc : inP d) (hp : Po (.inl (some (.int (mOut d x u).2.1))) (md E w m (mOut d x u).2.2 r (dO o (mOut d x u).1 1 2) t)) : Ct M_X10_doOut E [.ref m, .int x, .int u] (md E w m d r o t) Po := by
  refine Ct.of (ws2 := xAll) (L := [some (.ref m), some (.int x), some (.int u)]) (by decide +kernel) rfl rfl (List.forall_mem_cons.mpr ⟨rfl, List.forall_mem_cons.mpr ⟨rfl, List.forall_mem_cons.mpr ⟨rfl, fun _ h => absurd h List.not_mem_nil⟩⟩⟩) (Nat.le_of_ble_eq_true rfl) rfl ?_
  unfold mOut at hp
  refine r_aload_n (q := 1) dX10_doOut_0 rfl rfl rfl ?_
  refine r_iload_n (q := 2) dX10_doOut_1 rfl rfl rfl ?_
  refine r_callV (q := 5) (ci := 12) (As := [_]) dX10_doOut_2 s_X10_doOut_89 md_g0 rfl rfl rfl (Nat.le_of_ble_eq_true rfl) rfl rfl rfl (Nat.le_of_ble_eq_true rfl) (Nat.le_of_ble_eq_true rfl) ⟨(Nat.le_of_ble_eq_true rfl), (Nat.le_of_ble_eq_true rfl)⟩ rfl ?_
  refine ct_X10_isTub hc.1 (fun hx => ?_) (fun hx => ?_)
  · show WF _ E Po _ _ _ _ _ _ _
    rw [if_pos hx] at hp
    obtain ⟨j, hj, rfl⟩ := hx.ix
    rw [nI_cl (by omega)] at hp
    refine r_if_eq (q := 16) (q2 := 8) dX10_doOut_5 (by decide) rfl (fun h9 => absurd h9 (by decide)) (fun _ => ?_)
    refine r_aload_n (q := 9) dX10_doOut_8 rfl rfl rfl ?_
    refine r_iload_n (q := 10) dX10_doOut_9 rfl rfl rfl ?_
    refine r_callV (q := 13) (ci := 12) (As := [_]) dX10_doOut_10 s_X10_doOut_131 md_g0 rfl rfl rfl (Nat.le_of_ble_eq_true rfl) rfl rfl rfl (Nat.le_of_ble_eq_true rfl) (Nat.le_of_ble_eq_true rfl) ⟨(Nat.le_of_ble_eq_true rfl), (Nat.le_of_ble_eq_true rfl)⟩ rfl ?_
    refine ct_X10_isTent hc.1 (fun hu => ?_) (fun hu => ?_)
    · show WF _ E Po _ _ _ _ _ _ _
      rw [if_pos hu] at hp
      obtain ⟨v, hv, rfl⟩ := hu.ix
      rw [nI_cl (by omega)] at hp
      refine r_if_ne (q := 22) (q2 := 16) dX10_doOut_13 (by decide) rfl (fun _ => ?_) (fun h9 => absurd h9 (by decide))
      refine r_aload_n (q := 23) dX10_doOut_22 rfl rfl rfl ?_
      refine r_iload_n (q := 24) dX10_doOut_23 rfl rfl rfl ?_
      refine r_iconst (q := 25) (v := 1) dX10_doOut_24 rfl rfl ?_
      refine r_callV (q := 28) (ci := 12) (As := [_, _]) dX10_doOut_25 s_X10_doOut_93 md_g0 rfl rfl rfl (Nat.le_of_ble_eq_true rfl) rfl rfl rfl (Nat.le_of_ble_eq_true rfl) (Nat.le_of_ble_eq_true rfl) ⟨(Nat.le_of_ble_eq_true rfl), (Nat.le_of_ble_eq_true rfl)⟩ rfl ?_
      refine ct_X10_tub1 (k := 1) hj (by decide) ?_
      show WF _ E Po _ _ _ _ _ _ _
      refine r_if_lt (q := 44) (q2 := 31) dX10_doOut_28 (by decide) rfl (fun h28 => ?_) (fun h28 => ?_)
      · rw [if_pos h28] at hp
        refine r_aload_n (q := 45) dX10_doOut_44 rfl rfl rfl ?_
        refine r_iload_n (q := 46) dX10_doOut_45 rfl rfl rfl ?_
        refine r_iconst (q := 47) (v := 2) dX10_doOut_46 rfl rfl ?_
        refine r_callV (q := 50) (ci := 12) (As := [_, _]) dX10_doOut_47 s_X10_doOut_93 md_g0 rfl rfl rfl (Nat.le_of_ble_eq_true rfl) rfl rfl rfl (Nat.le_of_ble_eq_true rfl) (Nat.le_of_ble_eq_true rfl) ⟨(Nat.le_of_ble_eq_true rfl), (Nat.le_of_ble_eq_true rfl)⟩ rfl ?_
        refine ct_X10_tub1 (k := 2) hj (by decide) ?_
        show WF _ E Po _ _ _ _ _ _ _
        refine r_if_eq (q := 66) (q2 := 53) dX10_doOut_50 (by decide) rfl (fun h50 => ?_) (fun h50 => ?_)
        · rw [if_pos h50] at hp
          refine r_aload_n (q := 67) dX10_doOut_66 rfl rfl rfl ?_
          refine r_iload_n (q := 68) dX10_doOut_67 rfl rfl rfl ?_
          refine r_iconst (q := 69) (v := 1) dX10_doOut_68 rfl rfl ?_
          refine r_callV (q := 72) (ci := 12) (As := [_, _]) dX10_doOut_69 s_X10_doOut_134 md_g0 rfl rfl rfl (Nat.le_of_ble_eq_true rfl) rfl rfl rfl (Nat.le_of_ble_eq_true rfl) (Nat.le_of_ble_eq_true rfl) ⟨(Nat.le_of_ble_eq_true rfl), (Nat.le_of_ble_eq_true rfl)⟩ rfl ?_
          refine ct_X10_tent1 (k := 1) hv (by decide) ?_
          show WF _ E Po _ _ _ _ _ _ _
          refine r_if_lt (q := 88) (q2 := 75) dX10_doOut_72 (by decide) rfl (fun h72 => ?_) (fun h72 => ?_)
          · rw [if_pos h72] at hp
            refine r_aload_n (q := 89) dX10_doOut_88 rfl rfl rfl ?_
            refine r_getfield (q := 92) dX10_doOut_89 f_X10_doOut_9 md_g0 rfl rfl ?_
            refine r_bipush (q := 94) (v := 7) dX10_doOut_92 (by decide) rfl ?_
            refine r_dup2 (q := 95) dX10_doOut_94 rfl rfl rfl ?_
            refine r_ldS (q := 96) (k := 7) dX10_doOut_95 (by decide) rfl ?_
            refine r_iconst (q := 97) (v := 2) dX10_doOut_96 rfl rfl ?_
            refine r_aload_n (q := 98) dX10_doOut_97 rfl rfl rfl ?_
            refine r_iload_n (q := 99) dX10_doOut_98 rfl rfl rfl ?_
            refine r_iconst (q := 100) (v := 0) dX10_doOut_99 rfl rfl ?_
            refine r_callV (q := 103) (ci := 12) (As := [_, _]) dX10_doOut_100 s_X10_doOut_93 md_g0 rfl rfl rfl (Nat.le_of_ble_eq_true rfl) rfl rfl rfl (Nat.le_of_ble_eq_true rfl) (Nat.le_of_ble_eq_true rfl) ⟨(Nat.le_of_ble_eq_true rfl), (Nat.le_of_ble_eq_true rfl)⟩ rfl ?_
            refine ct_X10_tub1 (k := 0) hj (by decide) ?_
            show WF _ E Po _ _ _ _ _ _ _
            refine r_imul (q := 104) dX10_doOut_103 rfl ?_
            refine r_iadd (q := 105) dX10_doOut_104 rfl ?_
            refine r_stS (q := 106) (k := 7) dX10_doOut_105 (by decide) rfl ?_
            refine r_aload_n (q := 107) dX10_doOut_106 rfl rfl rfl ?_
            refine r_iload_n (q := 108) dX10_doOut_107 rfl rfl rfl ?_
            refine r_iconst (q := 109) (v := 1) dX10_doOut_108 rfl rfl ?_
            refine r_iload_n (q := 110) dX10_doOut_109 rfl rfl rfl ?_
            refine r_callV (q := 113) (ci := 12) (As := [_, _, _]) dX10_doOut_110 s_X10_doOut_112 md_g0 rfl rfl rfl (Nat.le_of_ble_eq_true rfl) rfl rfl rfl (Nat.le_of_ble_eq_true rfl) (Nat.le_of_ble_eq_true rfl) ⟨(Nat.le_of_ble_eq_true rfl), (Nat.le_of_ble_eq_true rfl)⟩ rfl ?_
            refine ct_X10_setTub (k := 1) hj (by decide) ?_
            show WF _ E Po _ _ _ _ _ _ _
            refine r_aload_n (q := 114) dX10_doOut_113 rfl rfl rfl ?_
            refine r_iload_n (q := 115) dX10_doOut_114 rfl rfl rfl ?_
            refine r_iconst (q := 116) (v := 3) dX10_doOut_115 rfl rfl ?_
            refine r_iconst (q := 117) (v := 0) dX10_doOut_116 rfl rfl ?_
            refine r_callV (q := 120) (ci := 12) (As := [_, _, _]) dX10_doOut_117 s_X10_doOut_112 md_g0 rfl rfl rfl (Nat.le_of_ble_eq_true rfl) rfl rfl rfl (Nat.le_of_ble_eq_true rfl) (Nat.le_of_ble_eq_true rfl) ⟨(Nat.le_of_ble_eq_true rfl), (Nat.le_of_ble_eq_true rfl)⟩ rfl ?_
            refine ct_X10_setTub (k := 3) hj (by decide) ?_
            show WF _ E Po _ _ _ _ _ _ _
            refine r_aload_n (q := 121) dX10_doOut_120 rfl rfl rfl ?_
            refine r_iload_n (q := 122) dX10_doOut_121 rfl rfl rfl ?_
            refine r_iconst (q := 123) (v := 5) dX10_doOut_122 rfl rfl ?_
            refine r_iconst (q := 124) (v := 0) dX10_doOut_123 rfl rfl ?_
            refine r_callV (q := 127) (ci := 12) (As := [_, _, _]) dX10_doOut_124 s_X10_doOut_112 md_g0 rfl rfl rfl (Nat.le_of_ble_eq_true rfl) rfl rfl rfl (Nat.le_of_ble_eq_true rfl) (Nat.le_of_ble_eq_true rfl) ⟨(Nat.le_of_ble_eq_true rfl), (Nat.le_of_ble_eq_true rfl)⟩ rfl ?_
            refine ct_X10_setTub (k := 5) hj (by decide) ?_
            show WF _ E Po _ _ _ _ _ _ _
            refine r_aload_n (q := 128) dX10_doOut_127 rfl rfl rfl ?_
            refine r_iload_n (q := 129) dX10_doOut_128 rfl rfl rfl ?_
            refine r_iconst (q := 130) (v := 1) dX10_doOut_129 rfl rfl ?_
            refine r_iload_n (q := 131) dX10_doOut_130 rfl rfl rfl ?_
            refine r_callV (q := 134) (ci := 12) (As := [_, _, _]) dX10_doOut_131 s_X10_doOut_137 md_g0 rfl rfl rfl (Nat.le_of_ble_eq_true rfl) rfl rfl rfl (Nat.le_of_ble_eq_true rfl) (Nat.le_of_ble_eq_true rfl) ⟨(Nat.le_of_ble_eq_true rfl), (Nat.le_of_ble_eq_true rfl)⟩ rfl ?_
            refine ct_X10_setTent (k := 1) hv (by decide) ?_
            show WF _ E Po _ _ _ _ _ _ _
            refine r_aload_n (q := 135) dX10_doOut_134 rfl rfl rfl ?_
            refine r_getfield (q := 138) dX10_doOut_135 f_X10_doOut_9 md_g0 rfl rfl ?_
            refine r_bipush (q := 140) (v := 7) dX10_doOut_138 (by decide) rfl ?_
            refine r_ldS (q := 141) (k := 7) dX10_doOut_140 (by decide) rfl ?_
            refine r_iret dX10_doOut_141 rfl (Nat.le_of_ble_eq_true rfl) (Nat.le_of_ble_eq_true rfl) ?_
            exact hp
          · rw [if_neg h72] at hp
            refine r_aload_n (q := 76) dX10_doOut_75 rfl rfl rfl ?_
            refine r_iconst (q := 77) (v := 2) dX10_doOut_76 rfl rfl ?_
            refine r_iconst (q := 78) (v := 4) dX10_doOut_77 rfl rfl ?_
            refine r_aload_n (q := 79) dX10_doOut_78 rfl rfl rfl ?_
            refine r_iload_n (q := 80) dX10_doOut_79 rfl rfl rfl ?_
            refine r_iconst (q := 81) (v := 1) dX10_doOut_80 rfl rfl ?_
            refine r_callV (q := 84) (ci := 12) (As := [_, _]) dX10_doOut_81 s_X10_doOut_134 md_g0 rfl rfl rfl (Nat.le_of_ble_eq_true rfl) rfl rfl rfl (Nat.le_of_ble_eq_true rfl) (Nat.le_of_ble_eq_true rfl) ⟨(Nat.le_of_ble_eq_true rfl), (Nat.le_of_ble_eq_true rfl)⟩ rfl ?_
            refine ct_X10_tent1 (k := 1) hv (by decide) ?_
            show WF _ E Po _ _ _ _ _ _ _
            refine r_callV (q := 87) (ci := 12) (As := [_, _, _]) dX10_doOut_84 s_X10_doOut_108 md_g0 rfl rfl rfl (Nat.le_of_ble_eq_true rfl) rfl rfl rfl (Nat.le_of_ble_eq_true rfl) (Nat.le_of_ble_eq_true rfl) ⟨(Nat.le_of_ble_eq_true rfl), (Nat.le_of_ble_eq_true rfl)⟩ rfl ?_
            refine ct_X10_refuse ?_
            show WF _ E Po _ _ _ _ _ _ _
            refine r_iret dX10_doOut_87 rfl (Nat.le_of_ble_eq_true rfl) (Nat.le_of_ble_eq_true rfl) ?_
            exact hp
        · rw [if_neg h50] at hp
          refine r_aload_n (q := 54) dX10_doOut_53 rfl rfl rfl ?_
          refine r_iconst (q := 55) (v := 2) dX10_doOut_54 rfl rfl ?_
          refine r_iconst (q := 56) (v := 3) dX10_doOut_55 rfl rfl ?_
          refine r_aload_n (q := 57) dX10_doOut_56 rfl rfl rfl ?_
          refine r_iload_n (q := 58) dX10_doOut_57 rfl rfl rfl ?_
          refine r_iconst (q := 59) (v := 0) dX10_doOut_58 rfl rfl ?_
          refine r_callV (q := 62) (ci := 12) (As := [_, _]) dX10_doOut_59 s_X10_doOut_122 md_g0 rfl rfl rfl (Nat.le_of_ble_eq_true rfl) rfl rfl rfl (Nat.le_of_ble_eq_true rfl) (Nat.le_of_ble_eq_true rfl) ⟨(Nat.le_of_ble_eq_true rfl), (Nat.le_of_ble_eq_true rfl)⟩ rfl ?_
          refine ct_X10_firstTorn hj (k := 0) (by omega) ?_
          show WF _ E Po _ _ _ _ _ _ _
          refine r_callV (q := 65) (ci := 12) (As := [_, _, _]) dX10_doOut_62 s_X10_doOut_108 md_g0 rfl rfl rfl (Nat.le_of_ble_eq_true rfl) rfl rfl rfl (Nat.le_of_ble_eq_true rfl) (Nat.le_of_ble_eq_true rfl) ⟨(Nat.le_of_ble_eq_true rfl), (Nat.le_of_ble_eq_true rfl)⟩ rfl ?_
          refine ct_X10_refuse ?_
          show WF _ E Po _ _ _ _ _ _ _
          refine r_iret dX10_doOut_65 rfl (Nat.le_of_ble_eq_true rfl) (Nat.le_of_ble_eq_true rfl) ?_
          exact hp
      · rw [if_neg h28] at hp
        refine r_aload_n (q := 32) dX10_doOut_31 rfl rfl rfl ?_
        refine r_iconst (q := 33) (v := 2) dX10_doOut_32 rfl rfl ?_
        refine r_iconst (q := 34) (v := 2) dX10_doOut_33 rfl rfl ?_
        refine r_aload_n (q := 35) dX10_doOut_34 rfl rfl rfl ?_
        refine r_iload_n (q := 36) dX10_doOut_35 rfl rfl rfl ?_
        refine r_iconst (q := 37) (v := 1) dX10_doOut_36 rfl rfl ?_
        refine r_callV (q := 40) (ci := 12) (As := [_, _]) dX10_doOut_37 s_X10_doOut_93 md_g0 rfl rfl rfl (Nat.le_of_ble_eq_true rfl) rfl rfl rfl (Nat.le_of_ble_eq_true rfl) (Nat.le_of_ble_eq_true rfl) ⟨(Nat.le_of_ble_eq_true rfl), (Nat.le_of_ble_eq_true rfl)⟩ rfl ?_
        refine ct_X10_tub1 (k := 1) hj (by decide) ?_
        show WF _ E Po _ _ _ _ _ _ _
        refine r_callV (q := 43) (ci := 12) (As := [_, _, _]) dX10_doOut_40 s_X10_doOut_108 md_g0 rfl rfl rfl (Nat.le_of_ble_eq_true rfl) rfl rfl rfl (Nat.le_of_ble_eq_true rfl) (Nat.le_of_ble_eq_true rfl) ⟨(Nat.le_of_ble_eq_true rfl), (Nat.le_of_ble_eq_true rfl)⟩ rfl ?_
        refine ct_X10_refuse ?_
        show WF _ E Po _ _ _ _ _ _ _
        refine r_iret dX10_doOut_43 rfl (Nat.le_of_ble_eq_true rfl) (Nat.le_of_ble_eq_true rfl) ?_
        exact hp
    · show WF _ E Po _ _ _ _ _ _ _
      rw [if_neg hu] at hp
      refine r_if_ne (q := 22) (q2 := 16) dX10_doOut_13 (by decide) rfl (fun h9 => absurd rfl h9) (fun _ => ?_)
      refine r_aload_n (q := 17) dX10_doOut_16 rfl rfl rfl ?_
      refine r_iconst (q := 18) (v := 1) dX10_doOut_17 rfl rfl ?_
      refine r_callV (q := 21) (ci := 12) (As := [_]) dX10_doOut_18 s_X10_doOut_104 md_g0 rfl rfl rfl (Nat.le_of_ble_eq_true rfl) rfl rfl rfl (Nat.le_of_ble_eq_true rfl) (Nat.le_of_ble_eq_true rfl) ⟨(Nat.le_of_ble_eq_true rfl), (Nat.le_of_ble_eq_true rfl)⟩ rfl ?_
      refine ct_X10_fails ?_
      show WF _ E Po _ _ _ _ _ _ _
      refine r_iret dX10_doOut_21 rfl (Nat.le_of_ble_eq_true rfl) (Nat.le_of_ble_eq_true rfl) ?_
      exact hp
  · show WF _ E Po _ _ _ _ _ _ _
    rw [if_neg hx] at hp
    refine r_if_eq (q := 16) (q2 := 8) dX10_doOut_5 (by decide) rfl (fun _ => ?_) (fun h9 => absurd rfl h9)
    refine r_aload_n (q := 17) dX10_doOut_16 rfl rfl rfl ?_
    refine r_iconst (q := 18) (v := 1) dX10_doOut_17 rfl rfl ?_
    refine r_callV (q := 21) (ci := 12) (As := [_]) dX10_doOut_18 s_X10_doOut_104 md_g0 rfl rfl rfl (Nat.le_of_ble_eq_true rfl) rfl rfl rfl (Nat.le_of_ble_eq_true rfl) (Nat.le_of_ble_eq_true rfl) ⟨(Nat.le_of_ble_eq_true rfl), (Nat.le_of_ble_eq_true rfl)⟩ rfl ?_
    refine ct_X10_fails ?_
    show WF _ E Po _ _ _ _ _ _ _
    refine r_iret dX10_doOut_21 rfl (Nat.le_of_ble_eq_true rfl) (Nat.le_of_ble_eq_true rfl) ?_
    exact hp
set_option maxRecDepth 100000 in
set_option maxHeartbeats 4000000 in
theorem ct_X10_doBack {E : xE} {Po : xPo} {w : xW} {m : Nat} {d : xCo} {r : mRs} {o : Nat → Int32} {t : mTx} {x : Int32} (hc : inP d) (hp : Po (.inl (some (.int (mBack d x).2.1))) (md E w m (mBack d x).2.2 r (dO o (mBack d x).1 1 2) t)) : Ct M_X10_doBack E [.ref m, .int x] (md E w m d r o t) Po := by
  refine Ct.of (ws2 := xAll) (L := [some (.ref m), some (.int x), none, none]) (by decide +kernel) rfl rfl (List.forall_mem_cons.mpr ⟨rfl, List.forall_mem_cons.mpr ⟨rfl, fun _ h => absurd h List.not_mem_nil⟩⟩) (Nat.le_of_ble_eq_true rfl) rfl ?_
  unfold mBack at hp
  refine r_aload_n (q := 1) dX10_doBack_0 rfl rfl rfl ?_
  refine r_iload_n (q := 2) dX10_doBack_1 rfl rfl rfl ?_
  refine r_callV (q := 5) (ci := 12) (As := [_]) dX10_doBack_2 s_X10_doBack_89 md_g0 rfl rfl rfl (Nat.le_of_ble_eq_true rfl) rfl rfl rfl (Nat.le_of_ble_eq_true rfl) (Nat.le_of_ble_eq_true rfl) ⟨(Nat.le_of_ble_eq_true rfl), (Nat.le_of_ble_eq_true rfl)⟩ rfl ?_
  refine ct_X10_isTub hc.1 (fun hx => ?_) (fun hx => ?_)
  · show WF _ E Po _ _ _ _ _ _ _
    rw [if_pos hx] at hp
    obtain ⟨j, hj, rfl⟩ := hx.ix
    rw [nI_cl (by omega)] at hp
    refine r_if_ne (q := 14) (q2 := 8) dX10_doBack_5 (by decide) rfl (fun _ => ?_) (fun h9 => absurd h9 (by decide))
    refine r_aload_n (q := 15) dX10_doBack_14 rfl rfl rfl ?_
    refine r_iload_n (q := 16) dX10_doBack_15 rfl rfl rfl ?_
    refine r_iconst (q := 17) (v := 1) dX10_doBack_16 rfl rfl ?_
    refine r_callV (q := 20) (ci := 12) (As := [_, _]) dX10_doBack_17 s_X10_doBack_93 md_g0 rfl rfl rfl (Nat.le_of_ble_eq_true rfl) rfl rfl rfl (Nat.le_of_ble_eq_true rfl) (Nat.le_of_ble_eq_true rfl) ⟨(Nat.le_of_ble_eq_true rfl), (Nat.le_of_ble_eq_true rfl)⟩ rfl ?_
    refine ct_X10_tub1 (k := 1) hj (by decide) ?_
    show WF _ E Po _ _ _ _ _ _ _
    refine r_istore_n (q := 21) dX10_doBack_20 rfl (Nat.le_of_ble_eq_true rfl) (xone_of rfl) rfl ?_
    refine r_aload_n (q := 22) dX10_doBack_21 rfl rfl rfl ?_
    refine r_iload_n (q := 23) dX10_doBack_22 rfl rfl rfl ?_
    refine r_iconst (q := 24) (v := 3) dX10_doBack_23 rfl rfl ?_
    refine r_callV (q := 27) (ci := 12) (As := [_, _]) dX10_doBack_24 s_X10_doBack_93 md_g0 rfl rfl rfl (Nat.le_of_ble_eq_true rfl) rfl rfl rfl (Nat.le_of_ble_eq_true rfl) (Nat.le_of_ble_eq_true rfl) ⟨(Nat.le_of_ble_eq_true rfl), (Nat.le_of_ble_eq_true rfl)⟩ rfl ?_
    refine ct_X10_tub1 (k := 3) hj (by decide) ?_
    show WF _ E Po _ _ _ _ _ _ _
    refine r_istore_n (q := 28) dX10_doBack_27 rfl (Nat.le_of_ble_eq_true rfl) (xone_of rfl) rfl ?_
    refine r_iload_n (q := 29) dX10_doBack_28 rfl rfl rfl ?_
    refine r_if_ge (q := 40) (q2 := 32) dX10_doBack_29 (by decide) rfl (fun h29 => ?_) (fun h29 => ?_)
    · rw [if_pos h29] at hp
      obtain ⟨u, hu, eu⟩ := hc.2.1 j hj h29
      rw [eu, nI_cl (by omega)] at hp
      rw [eu]
      refine r_aload_n (q := 41) dX10_doBack_40 rfl rfl rfl ?_
      refine r_iload_n (q := 42) dX10_doBack_41 rfl rfl rfl ?_
      refine r_iconst (q := 43) (v := 1) dX10_doBack_42 rfl rfl ?_
      refine r_iconst (q := 44) (v := (-1)) dX10_doBack_43 rfl rfl ?_
      refine r_callV (q := 47) (ci := 12) (As := [_, _, _]) dX10_doBack_44 s_X10_doBack_112 md_g0 rfl rfl rfl (Nat.le_of_ble_eq_true rfl) rfl rfl rfl (Nat.le_of_ble_eq_true rfl) (Nat.le_of_ble_eq_true rfl) ⟨(Nat.le_of_ble_eq_true rfl), (Nat.le_of_ble_eq_true rfl)⟩ rfl ?_
      refine ct_X10_setTub (k := 1) hj (by decide) ?_
      show WF _ E Po _ _ _ _ _ _ _
      refine r_aload_n (q := 48) dX10_doBack_47 rfl rfl rfl ?_
      refine r_iload_n (q := 49) dX10_doBack_48 rfl rfl rfl ?_
      refine r_iconst (q := 50) (v := 3) dX10_doBack_49 rfl rfl ?_
      refine r_iconst (q := 51) (v := 0) dX10_doBack_50 rfl rfl ?_
      refine r_callV (q := 54) (ci := 12) (As := [_, _, _]) dX10_doBack_51 s_X10_doBack_112 md_g0 rfl rfl rfl (Nat.le_of_ble_eq_true rfl) rfl rfl rfl (Nat.le_of_ble_eq_true rfl) (Nat.le_of_ble_eq_true rfl) ⟨(Nat.le_of_ble_eq_true rfl), (Nat.le_of_ble_eq_true rfl)⟩ rfl ?_
      refine ct_X10_setTub (k := 3) hj (by decide) ?_
      show WF _ E Po _ _ _ _ _ _ _
      refine r_aload_n (q := 55) dX10_doBack_54 rfl rfl rfl ?_
      refine r_iload_n (q := 56) dX10_doBack_55 rfl rfl rfl ?_
      refine r_iconst (q := 57) (v := 5) dX10_doBack_56 rfl rfl ?_
      refine r_iconst (q := 58) (v := 0) dX10_doBack_57 rfl rfl ?_
      refine r_callV (q := 61) (ci := 12) (As := [_, _, _]) dX10_doBack_58 s_X10_doBack_112 md_g0 rfl rfl rfl (Nat.le_of_ble_eq_true rfl) rfl rfl rfl (Nat.le_of_ble_eq_true rfl) (Nat.le_of_ble_eq_true rfl) ⟨(Nat.le_of_ble_eq_true rfl), (Nat.le_of_ble_eq_true rfl)⟩ rfl ?_
      refine ct_X10_setTub (k := 5) hj (by decide) ?_
      show WF _ E Po _ _ _ _ _ _ _
      refine r_aload_n (q := 62) dX10_doBack_61 rfl rfl rfl ?_
      refine r_iload_n (q := 63) dX10_doBack_62 rfl rfl rfl ?_
      refine r_iconst (q := 64) (v := 1) dX10_doBack_63 rfl rfl ?_
      refine r_iconst (q := 65) (v := (-1)) dX10_doBack_64 rfl rfl ?_
      refine r_callV (q := 68) (ci := 12) (As := [_, _, _]) dX10_doBack_65 s_X10_doBack_137 md_g0 rfl rfl rfl (Nat.le_of_ble_eq_true rfl) rfl rfl rfl (Nat.le_of_ble_eq_true rfl) (Nat.le_of_ble_eq_true rfl) ⟨(Nat.le_of_ble_eq_true rfl), (Nat.le_of_ble_eq_true rfl)⟩ rfl ?_
      refine ct_X10_setTent (k := 1) hu (by decide) ?_
      show WF _ E Po _ _ _ _ _ _ _
      refine r_iload_n (q := 69) dX10_doBack_68 rfl rfl rfl ?_
      refine r_iret dX10_doBack_69 rfl (Nat.le_of_ble_eq_true rfl) (Nat.le_of_ble_eq_true rfl) ?_
      exact hp
    · rw [if_neg h29] at hp
      refine r_aload_n (q := 33) dX10_doBack_32 rfl rfl rfl ?_
      refine r_iconst (q := 34) (v := 2) dX10_doBack_33 rfl rfl ?_
      refine r_iconst (q := 35) (v := 5) dX10_doBack_34 rfl rfl ?_
      refine r_iload_n (q := 36) dX10_doBack_35 rfl rfl rfl ?_
      refine r_callV (q := 39) (ci := 12) (As := [_, _, _]) dX10_doBack_36 s_X10_doBack_108 md_g0 rfl rfl rfl (Nat.le_of_ble_eq_true rfl) rfl rfl rfl (Nat.le_of_ble_eq_true rfl) (Nat.le_of_ble_eq_true rfl) ⟨(Nat.le_of_ble_eq_true rfl), (Nat.le_of_ble_eq_true rfl)⟩ rfl ?_
      refine ct_X10_refuse ?_
      show WF _ E Po _ _ _ _ _ _ _
      refine r_iret dX10_doBack_39 rfl (Nat.le_of_ble_eq_true rfl) (Nat.le_of_ble_eq_true rfl) ?_
      exact hp
  · show WF _ E Po _ _ _ _ _ _ _
    rw [if_neg hx] at hp
    refine r_if_ne (q := 14) (q2 := 8) dX10_doBack_5 (by decide) rfl (fun h9 => absurd rfl h9) (fun _ => ?_)
    refine r_aload_n (q := 9) dX10_doBack_8 rfl rfl rfl ?_
    refine r_iconst (q := 10) (v := 1) dX10_doBack_9 rfl rfl ?_
    refine r_callV (q := 13) (ci := 12) (As := [_]) dX10_doBack_10 s_X10_doBack_104 md_g0 rfl rfl rfl (Nat.le_of_ble_eq_true rfl) rfl rfl rfl (Nat.le_of_ble_eq_true rfl) (Nat.le_of_ble_eq_true rfl) ⟨(Nat.le_of_ble_eq_true rfl), (Nat.le_of_ble_eq_true rfl)⟩ rfl ?_
    refine ct_X10_fails ?_
    show WF _ E Po _ _ _ _ _ _ _
    refine r_iret dX10_doBack_13 rfl (Nat.le_of_ble_eq_true rfl) (Nat.le_of_ble_eq_true rfl) ?_
    exact hp
set_option maxRecDepth 100000 in
set_option maxHeartbeats 4000000 in
theorem ct_X10_doJoin {E : xE} {Po : xPo} {w : xW} {m : Nat} {d : xCo} {r : mRs} {o : Nat → Int32} {t : mTx} {x : Int32} (hc : inP d) (hp : Po (.inl (some (.int (mJoin d x).2.1))) (md E w m (mJoin d x).2.2 r (dO o (mJoin d x).1 1 2) t)) : Ct M_X10_doJoin E [.ref m, .int x] (md E w m d r o t) Po := by
  refine Ct.of (ws2 := xAll) (L := [some (.ref m), some (.int x), none]) (by decide +kernel) rfl rfl (List.forall_mem_cons.mpr ⟨rfl, List.forall_mem_cons.mpr ⟨rfl, fun _ h => absurd h List.not_mem_nil⟩⟩) (Nat.le_of_ble_eq_true rfl) rfl ?_
  unfold mJoin at hp
  refine r_aload_n (q := 1) dX10_doJoin_0 rfl rfl rfl ?_
  refine r_iload_n (q := 2) dX10_doJoin_1 rfl rfl rfl ?_
  refine r_callV (q := 5) (ci := 12) (As := [_]) dX10_doJoin_2 s_X10_doJoin_131 md_g0 rfl rfl rfl (Nat.le_of_ble_eq_true rfl) rfl rfl rfl (Nat.le_of_ble_eq_true rfl) (Nat.le_of_ble_eq_true rfl) ⟨(Nat.le_of_ble_eq_true rfl), (Nat.le_of_ble_eq_true rfl)⟩ rfl ?_
  refine ct_X10_isTent hc.1 (fun hx => ?_) (fun hx => ?_)
  · show WF _ E Po _ _ _ _ _ _ _
    rw [if_pos hx] at hp
    obtain ⟨u, hu, rfl⟩ := hx.ix
    rw [nI_cl (by omega)] at hp
    refine r_if_ne (q := 14) (q2 := 8) dX10_doJoin_5 (by decide) rfl (fun _ => ?_) (fun h9 => absurd h9 (by decide))
    refine r_aload_n (q := 15) dX10_doJoin_14 rfl rfl rfl ?_
    refine r_iload_n (q := 16) dX10_doJoin_15 rfl rfl rfl ?_
    refine r_iconst (q := 17) (v := 4) dX10_doJoin_16 rfl rfl ?_
    refine r_callV (q := 20) (ci := 12) (As := [_, _]) dX10_doJoin_17 s_X10_doJoin_134 md_g0 rfl rfl rfl (Nat.le_of_ble_eq_true rfl) rfl rfl rfl (Nat.le_of_ble_eq_true rfl) (Nat.le_of_ble_eq_true rfl) ⟨(Nat.le_of_ble_eq_true rfl), (Nat.le_of_ble_eq_true rfl)⟩ rfl ?_
    refine ct_X10_tent1 (k := 4) hu (by decide) ?_
    show WF _ E Po _ _ _ _ _ _ _
    refine r_istore_n (q := 21) dX10_doJoin_20 rfl (Nat.le_of_ble_eq_true rfl) (xone_of rfl) rfl ?_
    refine r_iload_n (q := 22) dX10_doJoin_21 rfl rfl rfl ?_
    refine r_bipush (q := 24) (v := 6) dX10_doJoin_22 (by decide) rfl ?_
    refine r_icmp_ne (q := 36) (q2 := 27) dX10_doJoin_24 (by decide) rfl (fun h24 => ?_) (fun h24 => ?_)
    · rw [if_neg h24] at hp
      obtain ⟨n, hn, en⟩ := hc.1.2.2.2 u hu
      have hn6 : n < 6 := by
        have : n ≠ 6 := fun z => h24 (by rw [en, z]; rfl)
        omega
      rw [en, nI_cl (by omega)] at hp
      rw [en]
      refine r_aload_n (q := 37) dX10_doJoin_36 rfl rfl rfl ?_
      refine r_iload_n (q := 38) dX10_doJoin_37 rfl rfl rfl ?_
      refine r_iconst (q := 39) (v := 1) dX10_doJoin_38 rfl rfl ?_
      refine r_callV (q := 42) (ci := 12) (As := [_, _]) dX10_doJoin_39 s_X10_doJoin_134 md_g0 rfl rfl rfl (Nat.le_of_ble_eq_true rfl) rfl rfl rfl (Nat.le_of_ble_eq_true rfl) (Nat.le_of_ble_eq_true rfl) ⟨(Nat.le_of_ble_eq_true rfl), (Nat.le_of_ble_eq_true rfl)⟩ rfl ?_
      refine ct_X10_tent1 (k := 1) hu (by decide) ?_
      show WF _ E Po _ _ _ _ _ _ _
      refine r_if_ge (q := 54) (q2 := 45) dX10_doJoin_42 (by decide) rfl (fun h42 => ?_) (fun h42 => ?_)
      · rw [if_pos h42] at hp
        refine r_aload_n (q := 55) dX10_doJoin_54 rfl rfl rfl ?_
        refine r_getfield (q := 58) dX10_doJoin_55 f_X10_doJoin_9 md_g0 rfl rfl ?_
        refine r_iconst (q := 59) (v := 4) dX10_doJoin_58 rfl rfl ?_
        refine r_ldS (q := 60) (k := 4) dX10_doJoin_59 (by decide) rfl ?_
        refine r_if_ne (q := 77) (q2 := 63) dX10_doJoin_60 (by decide) rfl (fun h60 => ?_) (fun h60 => ?_)
        · rw [if_neg h60] at hp
          refine r_aload_n (q := 78) dX10_doJoin_77 rfl rfl rfl ?_
          refine r_getfield (q := 81) dX10_doJoin_78 f_X10_doJoin_9 md_g0 rfl rfl ?_
          refine r_iconst (q := 82) (v := 4) dX10_doJoin_81 rfl rfl ?_
          refine r_dup2 (q := 83) dX10_doJoin_82 rfl rfl rfl ?_
          refine r_ldS (q := 84) (k := 4) dX10_doJoin_83 (by decide) rfl ?_
          refine r_iconst (q := 85) (v := 1) dX10_doJoin_84 rfl rfl ?_
          refine r_isub (q := 86) dX10_doJoin_85 rfl ?_
          refine r_stS (q := 87) (k := 4) dX10_doJoin_86 (by decide) rfl ?_
          refine r_aload_n (q := 88) dX10_doJoin_87 rfl rfl rfl ?_
          refine r_iload_n (q := 89) dX10_doJoin_88 rfl rfl rfl ?_
          refine r_iconst (q := 90) (v := 5) dX10_doJoin_89 rfl rfl ?_
          refine r_iload_n (q := 91) dX10_doJoin_90 rfl rfl rfl ?_
          refine r_iadd (q := 92) dX10_doJoin_91 rfl ?_
          rw [show (5 : Int32) + nI n = nI (5 + n) from nI_add 5 n]
          refine r_aload_n (q := 93) dX10_doJoin_92 rfl rfl rfl ?_
          refine r_getfield (q := 96) dX10_doJoin_93 f_X10_doJoin_9 md_g0 rfl rfl ?_
          refine r_bipush (q := 98) (v := 8) dX10_doJoin_96 (by decide) rfl ?_
          refine r_ldS (q := 99) (k := 8) dX10_doJoin_98 (by decide) rfl ?_
          refine r_callV (q := 102) (ci := 12) (As := [_, _, _]) dX10_doJoin_99 s_X10_doJoin_137 md_g0 rfl rfl rfl (Nat.le_of_ble_eq_true rfl) rfl rfl rfl (Nat.le_of_ble_eq_true rfl) (Nat.le_of_ble_eq_true rfl) ⟨(Nat.le_of_ble_eq_true rfl), (Nat.le_of_ble_eq_true rfl)⟩ rfl ?_
          refine ct_X10_setTent (k := 5 + n) hu (by omega) ?_
          show WF _ E Po _ _ _ _ _ _ _
          refine r_aload_n (q := 103) dX10_doJoin_102 rfl rfl rfl ?_
          refine r_iload_n (q := 104) dX10_doJoin_103 rfl rfl rfl ?_
          refine r_iconst (q := 105) (v := 4) dX10_doJoin_104 rfl rfl ?_
          refine r_iload_n (q := 106) dX10_doJoin_105 rfl rfl rfl ?_
          refine r_iconst (q := 107) (v := 1) dX10_doJoin_106 rfl rfl ?_
          refine r_iadd (q := 108) dX10_doJoin_107 rfl ?_
          refine r_callV (q := 111) (ci := 12) (As := [_, _, _]) dX10_doJoin_108 s_X10_doJoin_137 md_g0 rfl rfl rfl (Nat.le_of_ble_eq_true rfl) rfl rfl rfl (Nat.le_of_ble_eq_true rfl) (Nat.le_of_ble_eq_true rfl) ⟨(Nat.le_of_ble_eq_true rfl), (Nat.le_of_ble_eq_true rfl)⟩ rfl ?_
          refine ct_X10_setTent (k := 4) hu (by decide) ?_
          show WF _ E Po _ _ _ _ _ _ _
          refine r_aload_n (q := 112) dX10_doJoin_111 rfl rfl rfl ?_
          refine r_getfield (q := 115) dX10_doJoin_112 f_X10_doJoin_9 md_g0 rfl rfl ?_
          refine r_bipush (q := 117) (v := 8) dX10_doJoin_115 (by decide) rfl ?_
          refine r_dup2 (q := 118) dX10_doJoin_117 rfl rfl rfl ?_
          refine r_ldS (q := 119) (k := 8) dX10_doJoin_118 (by decide) rfl ?_
          refine r_iconst (q := 120) (v := 1) dX10_doJoin_119 rfl rfl ?_
          refine r_iadd (q := 121) dX10_doJoin_120 rfl ?_
          refine r_stS (q := 122) (k := 8) dX10_doJoin_121 (by decide) rfl ?_
          refine r_aload_n (q := 123) dX10_doJoin_122 rfl rfl rfl ?_
          refine r_getfield (q := 126) dX10_doJoin_123 f_X10_doJoin_9 md_g0 rfl rfl ?_
          refine r_bipush (q := 128) (v := 8) dX10_doJoin_126 (by decide) rfl ?_
          refine r_ldS (q := 129) (k := 8) dX10_doJoin_128 (by decide) rfl ?_
          refine r_iconst (q := 130) (v := 1) dX10_doJoin_129 rfl rfl ?_
          refine r_isub (q := 131) dX10_doJoin_130 rfl ?_
          refine r_iret dX10_doJoin_131 rfl (Nat.le_of_ble_eq_true rfl) (Nat.le_of_ble_eq_true rfl) ?_
          exact hp
        · rw [if_pos h60] at hp
          refine r_aload_n (q := 64) dX10_doJoin_63 rfl rfl rfl ?_
          refine r_iconst (q := 65) (v := 2) dX10_doJoin_64 rfl rfl ?_
          refine r_bipush (q := 67) (v := 10) dX10_doJoin_65 (by decide) rfl ?_
          refine r_aload_n (q := 68) dX10_doJoin_67 rfl rfl rfl ?_
          refine r_getfield (q := 71) dX10_doJoin_68 f_X10_doJoin_9 md_g0 rfl rfl ?_
          refine r_iconst (q := 72) (v := 5) dX10_doJoin_71 rfl rfl ?_
          refine r_ldS (q := 73) (k := 5) dX10_doJoin_72 (by decide) rfl ?_
          refine r_callV (q := 76) (ci := 12) (As := [_, _, _]) dX10_doJoin_73 s_X10_doJoin_108 md_g0 rfl rfl rfl (Nat.le_of_ble_eq_true rfl) rfl rfl rfl (Nat.le_of_ble_eq_true rfl) (Nat.le_of_ble_eq_true rfl) ⟨(Nat.le_of_ble_eq_true rfl), (Nat.le_of_ble_eq_true rfl)⟩ rfl ?_
          refine ct_X10_refuse ?_
          show WF _ E Po _ _ _ _ _ _ _
          refine r_iret dX10_doJoin_76 rfl (Nat.le_of_ble_eq_true rfl) (Nat.le_of_ble_eq_true rfl) ?_
          exact hp
      · rw [if_neg h42] at hp
        refine r_aload_n (q := 46) dX10_doJoin_45 rfl rfl rfl ?_
        refine r_iconst (q := 47) (v := 2) dX10_doJoin_46 rfl rfl ?_
        refine r_bipush (q := 49) (v := 6) dX10_doJoin_47 (by decide) rfl ?_
        refine r_iload_n (q := 50) dX10_doJoin_49 rfl rfl rfl ?_
        refine r_callV (q := 53) (ci := 12) (As := [_, _, _]) dX10_doJoin_50 s_X10_doJoin_108 md_g0 rfl rfl rfl (Nat.le_of_ble_eq_true rfl) rfl rfl rfl (Nat.le_of_ble_eq_true rfl) (Nat.le_of_ble_eq_true rfl) ⟨(Nat.le_of_ble_eq_true rfl), (Nat.le_of_ble_eq_true rfl)⟩ rfl ?_
        refine ct_X10_refuse ?_
        show WF _ E Po _ _ _ _ _ _ _
        refine r_iret dX10_doJoin_53 rfl (Nat.le_of_ble_eq_true rfl) (Nat.le_of_ble_eq_true rfl) ?_
        exact hp
    · rw [if_pos h24] at hp
      refine r_aload_n (q := 28) dX10_doJoin_27 rfl rfl rfl ?_
      refine r_iconst (q := 29) (v := 2) dX10_doJoin_28 rfl rfl ?_
      refine r_iconst (q := 30) (v := 1) dX10_doJoin_29 rfl rfl ?_
      refine r_bipush (q := 32) (v := 6) dX10_doJoin_30 (by decide) rfl ?_
      refine r_callV (q := 35) (ci := 12) (As := [_, _, _]) dX10_doJoin_32 s_X10_doJoin_108 md_g0 rfl rfl rfl (Nat.le_of_ble_eq_true rfl) rfl rfl rfl (Nat.le_of_ble_eq_true rfl) (Nat.le_of_ble_eq_true rfl) ⟨(Nat.le_of_ble_eq_true rfl), (Nat.le_of_ble_eq_true rfl)⟩ rfl ?_
      refine ct_X10_refuse ?_
      show WF _ E Po _ _ _ _ _ _ _
      refine r_iret dX10_doJoin_35 rfl (Nat.le_of_ble_eq_true rfl) (Nat.le_of_ble_eq_true rfl) ?_
      exact hp
  · show WF _ E Po _ _ _ _ _ _ _
    rw [if_neg hx] at hp
    refine r_if_ne (q := 14) (q2 := 8) dX10_doJoin_5 (by decide) rfl (fun h9 => absurd rfl h9) (fun _ => ?_)
    refine r_aload_n (q := 9) dX10_doJoin_8 rfl rfl rfl ?_
    refine r_iconst (q := 10) (v := 1) dX10_doJoin_9 rfl rfl ?_
    refine r_callV (q := 13) (ci := 12) (As := [_]) dX10_doJoin_10 s_X10_doJoin_104 md_g0 rfl rfl rfl (Nat.le_of_ble_eq_true rfl) rfl rfl rfl (Nat.le_of_ble_eq_true rfl) (Nat.le_of_ble_eq_true rfl) ⟨(Nat.le_of_ble_eq_true rfl), (Nat.le_of_ble_eq_true rfl)⟩ rfl ?_
    refine ct_X10_fails ?_
    show WF _ E Po _ _ _ _ _ _ _
    refine r_iret dX10_doJoin_13 rfl (Nat.le_of_ble_eq_true rfl) (Nat.le_of_ble_eq_true rfl) ?_
    exact hp
set_option maxRecDepth 100000 in
set_option maxHeartbeats 4000000 in
theorem ct_X10_doHeat {E : xE} {Po : xPo} {w : xW} {m : Nat} {d : xCo} {r : mRs} {o : Nat → Int32} {t : mTx} {x u : Int32} (hc : inP d) (hp : Po (.inl (some (.int (mHeat d x u).2.1))) (md E w m (mHeat d x u).2.2 r (dO o (mHeat d x u).1 1 2) t)) : Ct M_X10_doHeat E [.ref m, .int x, .int u] (md E w m d r o t) Po := by
  refine Ct.of (ws2 := xAll) (L := [some (.ref m), some (.int x), some (.int u)]) (by decide +kernel) rfl rfl (List.forall_mem_cons.mpr ⟨rfl, List.forall_mem_cons.mpr ⟨rfl, List.forall_mem_cons.mpr ⟨rfl, fun _ h => absurd h List.not_mem_nil⟩⟩⟩) (Nat.le_of_ble_eq_true rfl) rfl ?_
  unfold mHeat at hp
  refine r_aload_n (q := 1) dX10_doHeat_0 rfl rfl rfl ?_
  refine r_iload_n (q := 2) dX10_doHeat_1 rfl rfl rfl ?_
  refine r_callV (q := 5) (ci := 12) (As := [_]) dX10_doHeat_2 s_X10_doHeat_149 md_g0 rfl rfl rfl (Nat.le_of_ble_eq_true rfl) rfl rfl rfl (Nat.le_of_ble_eq_true rfl) (Nat.le_of_ble_eq_true rfl) ⟨(Nat.le_of_ble_eq_true rfl), (Nat.le_of_ble_eq_true rfl)⟩ rfl ?_
  refine ct_X10_isHeater hc.1 (fun hx => ?_) (fun hx => ?_)
  · show WF _ E Po _ _ _ _ _ _ _
    rw [if_pos hx] at hp
    obtain ⟨g, hg, rfl⟩ := hx.ix
    rw [nI_cl (by omega)] at hp
    refine r_if_eq (q := 16) (q2 := 8) dX10_doHeat_5 (by decide) rfl (fun h9 => absurd h9 (by decide)) (fun _ => ?_)
    refine r_aload_n (q := 9) dX10_doHeat_8 rfl rfl rfl ?_
    refine r_iload_n (q := 10) dX10_doHeat_9 rfl rfl rfl ?_
    refine r_callV (q := 13) (ci := 12) (As := [_]) dX10_doHeat_10 s_X10_doHeat_131 md_g0 rfl rfl rfl (Nat.le_of_ble_eq_true rfl) rfl rfl rfl (Nat.le_of_ble_eq_true rfl) (Nat.le_of_ble_eq_true rfl) ⟨(Nat.le_of_ble_eq_true rfl), (Nat.le_of_ble_eq_true rfl)⟩ rfl ?_
    refine ct_X10_isTent hc.1 (fun hu => ?_) (fun hu => ?_)
    · show WF _ E Po _ _ _ _ _ _ _
      rw [if_pos hu] at hp
      obtain ⟨v, hv, rfl⟩ := hu.ix
      rw [nI_cl (by omega)] at hp
      refine r_if_ne (q := 22) (q2 := 16) dX10_doHeat_13 (by decide) rfl (fun _ => ?_) (fun h9 => absurd h9 (by decide))
      refine r_aload_n (q := 23) dX10_doHeat_22 rfl rfl rfl ?_
      refine r_iload_n (q := 24) dX10_doHeat_23 rfl rfl rfl ?_
      refine r_callV (q := 27) (ci := 12) (As := [_]) dX10_doHeat_24 s_X10_doHeat_155 md_g0 rfl rfl rfl (Nat.le_of_ble_eq_true rfl) rfl rfl rfl (Nat.le_of_ble_eq_true rfl) (Nat.le_of_ble_eq_true rfl) ⟨(Nat.le_of_ble_eq_true rfl), (Nat.le_of_ble_eq_true rfl)⟩ rfl ?_
      refine ct_X10_tentOfHeater hg ?_
      show WF _ E Po _ _ _ _ _ _ _
      refine r_if_lt (q := 43) (q2 := 30) dX10_doHeat_27 (by decide) rfl (fun h27 => ?_) (fun h27 => ?_)
      · rw [if_pos h27] at hp
        refine r_aload_n (q := 44) dX10_doHeat_43 rfl rfl rfl ?_
        refine r_iload_n (q := 45) dX10_doHeat_44 rfl rfl rfl ?_
        refine r_iconst (q := 46) (v := 2) dX10_doHeat_45 rfl rfl ?_
        refine r_callV (q := 49) (ci := 12) (As := [_, _]) dX10_doHeat_46 s_X10_doHeat_134 md_g0 rfl rfl rfl (Nat.le_of_ble_eq_true rfl) rfl rfl rfl (Nat.le_of_ble_eq_true rfl) (Nat.le_of_ble_eq_true rfl) ⟨(Nat.le_of_ble_eq_true rfl), (Nat.le_of_ble_eq_true rfl)⟩ rfl ?_
        refine ct_X10_tent1 (k := 2) hv (by decide) ?_
        show WF _ E Po _ _ _ _ _ _ _
        refine r_if_lt (q := 66) (q2 := 52) dX10_doHeat_49 (by decide) rfl (fun h49 => ?_) (fun h49 => ?_)
        · rw [if_pos h49] at hp
          refine r_aload_n (q := 67) dX10_doHeat_66 rfl rfl rfl ?_
          refine r_getfield (q := 70) dX10_doHeat_67 f_X10_doHeat_9 md_g0 rfl rfl ?_
          refine r_bipush (q := 72) (v := 121) dX10_doHeat_70 (by decide) rfl ?_
          refine r_iconst (q := 73) (v := 2) dX10_doHeat_72 rfl rfl ?_
          refine r_iload_n (q := 74) dX10_doHeat_73 rfl rfl rfl ?_
          refine r_imul (q := 75) dX10_doHeat_74 rfl ?_
          refine r_iadd (q := 76) dX10_doHeat_75 rfl ?_
          refine r_iconst (q := 77) (v := 1) dX10_doHeat_76 rfl rfl ?_
          refine r_iadd (q := 78) dX10_doHeat_77 rfl ?_
          refine r_iload_n (q := 79) dX10_doHeat_78 rfl rfl rfl ?_
          refine r_stG (q := 80) (k := 1) dX10_doHeat_79 hg (by decide) ixG1 rfl ?_
          refine r_aload_n (q := 81) dX10_doHeat_80 rfl rfl rfl ?_
          refine r_iload_n (q := 82) dX10_doHeat_81 rfl rfl rfl ?_
          refine r_iconst (q := 83) (v := 2) dX10_doHeat_82 rfl rfl ?_
          refine r_iload_n (q := 84) dX10_doHeat_83 rfl rfl rfl ?_
          refine r_callV (q := 87) (ci := 12) (As := [_, _, _]) dX10_doHeat_84 s_X10_doHeat_137 md_g0 rfl rfl rfl (Nat.le_of_ble_eq_true rfl) rfl rfl rfl (Nat.le_of_ble_eq_true rfl) (Nat.le_of_ble_eq_true rfl) ⟨(Nat.le_of_ble_eq_true rfl), (Nat.le_of_ble_eq_true rfl)⟩ rfl ?_
          refine ct_X10_setTent (k := 2) hv (by decide) ?_
          show WF _ E Po _ _ _ _ _ _ _
          refine r_aload_n (q := 88) dX10_doHeat_87 rfl rfl rfl ?_
          refine r_iload_n (q := 89) dX10_doHeat_88 rfl rfl rfl ?_
          refine r_callV (q := 92) (ci := 12) (As := [_]) dX10_doHeat_89 s_X10_doHeat_152 md_g0 rfl rfl rfl (Nat.le_of_ble_eq_true rfl) rfl rfl rfl (Nat.le_of_ble_eq_true rfl) (Nat.le_of_ble_eq_true rfl) ⟨(Nat.le_of_ble_eq_true rfl), (Nat.le_of_ble_eq_true rfl)⟩ rfl ?_
          refine ct_X10_gasOf hg ?_
          show WF _ E Po _ _ _ _ _ _ _
          rw [show (cU (cG d g 1 (nI v)) v 2 (nI g)).2.2.2 g 0 = d.2.2.2 g 0 from up2_2 (by decide)]
          refine r_iret dX10_doHeat_92 rfl (Nat.le_of_ble_eq_true rfl) (Nat.le_of_ble_eq_true rfl) ?_
          exact hp
        · rw [if_neg h49] at hp
          refine r_aload_n (q := 53) dX10_doHeat_52 rfl rfl rfl ?_
          refine r_iconst (q := 54) (v := 2) dX10_doHeat_53 rfl rfl ?_
          refine r_bipush (q := 56) (v := 8) dX10_doHeat_54 (by decide) rfl ?_
          refine r_aload_n (q := 57) dX10_doHeat_56 rfl rfl rfl ?_
          refine r_iload_n (q := 58) dX10_doHeat_57 rfl rfl rfl ?_
          refine r_iconst (q := 59) (v := 2) dX10_doHeat_58 rfl rfl ?_
          refine r_callV (q := 62) (ci := 12) (As := [_, _]) dX10_doHeat_59 s_X10_doHeat_134 md_g0 rfl rfl rfl (Nat.le_of_ble_eq_true rfl) rfl rfl rfl (Nat.le_of_ble_eq_true rfl) (Nat.le_of_ble_eq_true rfl) ⟨(Nat.le_of_ble_eq_true rfl), (Nat.le_of_ble_eq_true rfl)⟩ rfl ?_
          refine ct_X10_tent1 (k := 2) hv (by decide) ?_
          show WF _ E Po _ _ _ _ _ _ _
          refine r_callV (q := 65) (ci := 12) (As := [_, _, _]) dX10_doHeat_62 s_X10_doHeat_108 md_g0 rfl rfl rfl (Nat.le_of_ble_eq_true rfl) rfl rfl rfl (Nat.le_of_ble_eq_true rfl) (Nat.le_of_ble_eq_true rfl) ⟨(Nat.le_of_ble_eq_true rfl), (Nat.le_of_ble_eq_true rfl)⟩ rfl ?_
          refine ct_X10_refuse ?_
          show WF _ E Po _ _ _ _ _ _ _
          refine r_iret dX10_doHeat_65 rfl (Nat.le_of_ble_eq_true rfl) (Nat.le_of_ble_eq_true rfl) ?_
          exact hp
      · rw [if_neg h27] at hp
        refine r_aload_n (q := 31) dX10_doHeat_30 rfl rfl rfl ?_
        refine r_iconst (q := 32) (v := 2) dX10_doHeat_31 rfl rfl ?_
        refine r_bipush (q := 34) (v := 7) dX10_doHeat_32 (by decide) rfl ?_
        refine r_aload_n (q := 35) dX10_doHeat_34 rfl rfl rfl ?_
        refine r_iload_n (q := 36) dX10_doHeat_35 rfl rfl rfl ?_
        refine r_callV (q := 39) (ci := 12) (As := [_]) dX10_doHeat_36 s_X10_doHeat_155 md_g0 rfl rfl rfl (Nat.le_of_ble_eq_true rfl) rfl rfl rfl (Nat.le_of_ble_eq_true rfl) (Nat.le_of_ble_eq_true rfl) ⟨(Nat.le_of_ble_eq_true rfl), (Nat.le_of_ble_eq_true rfl)⟩ rfl ?_
        refine ct_X10_tentOfHeater hg ?_
        show WF _ E Po _ _ _ _ _ _ _
        refine r_callV (q := 42) (ci := 12) (As := [_, _, _]) dX10_doHeat_39 s_X10_doHeat_108 md_g0 rfl rfl rfl (Nat.le_of_ble_eq_true rfl) rfl rfl rfl (Nat.le_of_ble_eq_true rfl) (Nat.le_of_ble_eq_true rfl) ⟨(Nat.le_of_ble_eq_true rfl), (Nat.le_of_ble_eq_true rfl)⟩ rfl ?_
        refine ct_X10_refuse ?_
        show WF _ E Po _ _ _ _ _ _ _
        refine r_iret dX10_doHeat_42 rfl (Nat.le_of_ble_eq_true rfl) (Nat.le_of_ble_eq_true rfl) ?_
        exact hp
    · show WF _ E Po _ _ _ _ _ _ _
      rw [if_neg hu] at hp
      refine r_if_ne (q := 22) (q2 := 16) dX10_doHeat_13 (by decide) rfl (fun h9 => absurd rfl h9) (fun _ => ?_)
      refine r_aload_n (q := 17) dX10_doHeat_16 rfl rfl rfl ?_
      refine r_iconst (q := 18) (v := 1) dX10_doHeat_17 rfl rfl ?_
      refine r_callV (q := 21) (ci := 12) (As := [_]) dX10_doHeat_18 s_X10_doHeat_104 md_g0 rfl rfl rfl (Nat.le_of_ble_eq_true rfl) rfl rfl rfl (Nat.le_of_ble_eq_true rfl) (Nat.le_of_ble_eq_true rfl) ⟨(Nat.le_of_ble_eq_true rfl), (Nat.le_of_ble_eq_true rfl)⟩ rfl ?_
      refine ct_X10_fails ?_
      show WF _ E Po _ _ _ _ _ _ _
      refine r_iret dX10_doHeat_21 rfl (Nat.le_of_ble_eq_true rfl) (Nat.le_of_ble_eq_true rfl) ?_
      exact hp
  · show WF _ E Po _ _ _ _ _ _ _
    rw [if_neg hx] at hp
    refine r_if_eq (q := 16) (q2 := 8) dX10_doHeat_5 (by decide) rfl (fun _ => ?_) (fun h9 => absurd rfl h9)
    refine r_aload_n (q := 17) dX10_doHeat_16 rfl rfl rfl ?_
    refine r_iconst (q := 18) (v := 1) dX10_doHeat_17 rfl rfl ?_
    refine r_callV (q := 21) (ci := 12) (As := [_]) dX10_doHeat_18 s_X10_doHeat_104 md_g0 rfl rfl rfl (Nat.le_of_ble_eq_true rfl) rfl rfl rfl (Nat.le_of_ble_eq_true rfl) (Nat.le_of_ble_eq_true rfl) ⟨(Nat.le_of_ble_eq_true rfl), (Nat.le_of_ble_eq_true rfl)⟩ rfl ?_
    refine ct_X10_fails ?_
    show WF _ E Po _ _ _ _ _ _ _
    refine r_iret dX10_doHeat_21 rfl (Nat.le_of_ble_eq_true rfl) (Nat.le_of_ble_eq_true rfl) ?_
    exact hp
set_option maxRecDepth 100000 in
set_option maxHeartbeats 4000000 in
theorem ct_X10_doCold {E : xE} {Po : xPo} {w : xW} {m : Nat} {d : xCo} {r : mRs} {o : Nat → Int32} {t : mTx} {x : Int32} (hc : inP d) (hp : Po (.inl (some (.int (mCold d x).2.1))) (md E w m (mCold d x).2.2 r (dO o (mCold d x).1 1 2) t)) : Ct M_X10_doCold E [.ref m, .int x] (md E w m d r o t) Po := by
  refine Ct.of (ws2 := xAll) (L := [some (.ref m), some (.int x), none]) (by decide +kernel) rfl rfl (List.forall_mem_cons.mpr ⟨rfl, List.forall_mem_cons.mpr ⟨rfl, fun _ h => absurd h List.not_mem_nil⟩⟩) (Nat.le_of_ble_eq_true rfl) rfl ?_
  unfold mCold at hp
  refine r_aload_n (q := 1) dX10_doCold_0 rfl rfl rfl ?_
  refine r_iload_n (q := 2) dX10_doCold_1 rfl rfl rfl ?_
  refine r_callV (q := 5) (ci := 12) (As := [_]) dX10_doCold_2 s_X10_doCold_149 md_g0 rfl rfl rfl (Nat.le_of_ble_eq_true rfl) rfl rfl rfl (Nat.le_of_ble_eq_true rfl) (Nat.le_of_ble_eq_true rfl) ⟨(Nat.le_of_ble_eq_true rfl), (Nat.le_of_ble_eq_true rfl)⟩ rfl ?_
  refine ct_X10_isHeater hc.1 (fun hx => ?_) (fun hx => ?_)
  · show WF _ E Po _ _ _ _ _ _ _
    rw [if_pos hx] at hp
    obtain ⟨g, hg, rfl⟩ := hx.ix
    rw [nI_cl (by omega)] at hp
    refine r_if_ne (q := 14) (q2 := 8) dX10_doCold_5 (by decide) rfl (fun _ => ?_) (fun h9 => absurd h9 (by decide))
    refine r_aload_n (q := 15) dX10_doCold_14 rfl rfl rfl ?_
    refine r_iload_n (q := 16) dX10_doCold_15 rfl rfl rfl ?_
    refine r_callV (q := 19) (ci := 12) (As := [_]) dX10_doCold_16 s_X10_doCold_155 md_g0 rfl rfl rfl (Nat.le_of_ble_eq_true rfl) rfl rfl rfl (Nat.le_of_ble_eq_true rfl) (Nat.le_of_ble_eq_true rfl) ⟨(Nat.le_of_ble_eq_true rfl), (Nat.le_of_ble_eq_true rfl)⟩ rfl ?_
    refine ct_X10_tentOfHeater hg ?_
    show WF _ E Po _ _ _ _ _ _ _
    refine r_istore_n (q := 20) dX10_doCold_19 rfl (Nat.le_of_ble_eq_true rfl) (xone_of rfl) rfl ?_
    refine r_iload_n (q := 21) dX10_doCold_20 rfl rfl rfl ?_
    refine r_if_ge (q := 33) (q2 := 24) dX10_doCold_21 (by decide) rfl (fun h21 => ?_) (fun h21 => ?_)
    · rw [if_pos h21] at hp
      obtain ⟨u, hu, eu⟩ := hc.2.2.2.2 g hg h21
      rw [eu, nI_cl (by omega)] at hp
      rw [eu]
      refine r_aload_n (q := 34) dX10_doCold_33 rfl rfl rfl ?_
      refine r_getfield (q := 37) dX10_doCold_34 f_X10_doCold_9 md_g0 rfl rfl ?_
      refine r_bipush (q := 39) (v := 121) dX10_doCold_37 (by decide) rfl ?_
      refine r_iconst (q := 40) (v := 2) dX10_doCold_39 rfl rfl ?_
      refine r_iload_n (q := 41) dX10_doCold_40 rfl rfl rfl ?_
      refine r_imul (q := 42) dX10_doCold_41 rfl ?_
      refine r_iadd (q := 43) dX10_doCold_42 rfl ?_
      refine r_iconst (q := 44) (v := 1) dX10_doCold_43 rfl rfl ?_
      refine r_iadd (q := 45) dX10_doCold_44 rfl ?_
      refine r_iconst (q := 46) (v := (-1)) dX10_doCold_45 rfl rfl ?_
      refine r_stG (q := 47) (k := 1) dX10_doCold_46 hg (by decide) ixG1 rfl ?_
      refine r_aload_n (q := 48) dX10_doCold_47 rfl rfl rfl ?_
      refine r_iload_n (q := 49) dX10_doCold_48 rfl rfl rfl ?_
      refine r_iconst (q := 50) (v := 2) dX10_doCold_49 rfl rfl ?_
      refine r_iconst (q := 51) (v := (-1)) dX10_doCold_50 rfl rfl ?_
      refine r_callV (q := 54) (ci := 12) (As := [_, _, _]) dX10_doCold_51 s_X10_doCold_137 md_g0 rfl rfl rfl (Nat.le_of_ble_eq_true rfl) rfl rfl rfl (Nat.le_of_ble_eq_true rfl) (Nat.le_of_ble_eq_true rfl) ⟨(Nat.le_of_ble_eq_true rfl), (Nat.le_of_ble_eq_true rfl)⟩ rfl ?_
      refine ct_X10_setTent (k := 2) hu (by decide) ?_
      show WF _ E Po _ _ _ _ _ _ _
      refine r_iload_n (q := 55) dX10_doCold_54 rfl rfl rfl ?_
      refine r_iret dX10_doCold_55 rfl (Nat.le_of_ble_eq_true rfl) (Nat.le_of_ble_eq_true rfl) ?_
      exact hp
    · rw [if_neg h21] at hp
      refine r_aload_n (q := 25) dX10_doCold_24 rfl rfl rfl ?_
      refine r_iconst (q := 26) (v := 2) dX10_doCold_25 rfl rfl ?_
      refine r_bipush (q := 28) (v := 9) dX10_doCold_26 (by decide) rfl ?_
      refine r_iload_n (q := 29) dX10_doCold_28 rfl rfl rfl ?_
      refine r_callV (q := 32) (ci := 12) (As := [_, _, _]) dX10_doCold_29 s_X10_doCold_108 md_g0 rfl rfl rfl (Nat.le_of_ble_eq_true rfl) rfl rfl rfl (Nat.le_of_ble_eq_true rfl) (Nat.le_of_ble_eq_true rfl) ⟨(Nat.le_of_ble_eq_true rfl), (Nat.le_of_ble_eq_true rfl)⟩ rfl ?_
      refine ct_X10_refuse ?_
      show WF _ E Po _ _ _ _ _ _ _
      refine r_iret dX10_doCold_32 rfl (Nat.le_of_ble_eq_true rfl) (Nat.le_of_ble_eq_true rfl) ?_
      exact hp
  · show WF _ E Po _ _ _ _ _ _ _
    rw [if_neg hx] at hp
    refine r_if_ne (q := 14) (q2 := 8) dX10_doCold_5 (by decide) rfl (fun h9 => absurd rfl h9) (fun _ => ?_)
    refine r_aload_n (q := 9) dX10_doCold_8 rfl rfl rfl ?_
    refine r_iconst (q := 10) (v := 1) dX10_doCold_9 rfl rfl ?_
    refine r_callV (q := 13) (ci := 12) (As := [_]) dX10_doCold_10 s_X10_doCold_104 md_g0 rfl rfl rfl (Nat.le_of_ble_eq_true rfl) rfl rfl rfl (Nat.le_of_ble_eq_true rfl) (Nat.le_of_ble_eq_true rfl) ⟨(Nat.le_of_ble_eq_true rfl), (Nat.le_of_ble_eq_true rfl)⟩ rfl ?_
    refine ct_X10_fails ?_
    show WF _ E Po _ _ _ _ _ _ _
    refine r_iret dX10_doCold_13 rfl (Nat.le_of_ble_eq_true rfl) (Nat.le_of_ble_eq_true rfl) ?_
    exact hp
set_option maxRecDepth 100000 in
set_option maxHeartbeats 4000000 in
theorem ct_X10_doWash {E : xE} {Po : xPo} {w : xW} {m : Nat} {d : xCo} {r : mRs} {o : Nat → Int32} {t : mTx} {x : Int32} (hc : True) (hp : Po (.inl (some (.int (mWash d x).2.1))) (md E w m (mWash d x).2.2 r (dO o (mWash d x).1 1 2) t)) : Ct M_X10_doWash E [.ref m, .int x] (md E w m d r o t) Po := by
  refine Ct.of (ws2 := xAll) (L := [some (.ref m), some (.int x), none]) (by decide +kernel) rfl rfl (List.forall_mem_cons.mpr ⟨rfl, List.forall_mem_cons.mpr ⟨rfl, fun _ h => absurd h List.not_mem_nil⟩⟩) (Nat.le_of_ble_eq_true rfl) rfl ?_
  unfold mWash mn at hp
  refine r_iload_n (q := 1) dX10_doWash_0 rfl rfl rfl ?_
  refine r_iconst (q := 2) (v := 1) dX10_doWash_1 rfl rfl ?_
  refine r_bipush (q := 4) (v := 20) dX10_doWash_2 (by decide) rfl ?_
  refine r_callS (q := 7) (As := [_, _, _]) dX10_doWash_4 s_X10_doWash_85 rfl rfl (Nat.le_of_ble_eq_true rfl) rfl rfl rfl (Nat.le_of_ble_eq_true rfl) (Nat.le_of_ble_eq_true rfl) ⟨(Nat.le_of_ble_eq_true rfl), (Nat.le_of_ble_eq_true rfl)⟩ rfl ?_
  refine ct_X10_in (fun hi => ?_) (fun hi => ?_)
  · show WF _ E Po _ _ _ _ _ _ _
    rw [if_neg hi] at hp
    refine r_if_ne (q := 16) (q2 := 10) dX10_doWash_7 (by decide) rfl (fun _ => ?_) (fun h9 => absurd h9 (by decide))
    refine r_iload_n (q := 17) dX10_doWash_16 rfl rfl rfl ?_
    refine r_aload_n (q := 18) dX10_doWash_17 rfl rfl rfl ?_
    refine r_getfield (q := 21) dX10_doWash_18 f_X10_doWash_9 md_g0 rfl rfl ?_
    refine r_iconst (q := 22) (v := 5) dX10_doWash_21 rfl rfl ?_
    refine r_ldS (q := 23) (k := 5) dX10_doWash_22 (by decide) rfl ?_
    refine r_mmin (q := 26) dX10_doWash_23 p_X10_doWash_164 (Nat.le_of_ble_eq_true rfl) rfl (Nat.le_of_ble_eq_true rfl) (Nat.le_of_ble_eq_true rfl) ?_
    refine r_istore_n (q := 27) dX10_doWash_26 rfl (Nat.le_of_ble_eq_true rfl) (xone_of rfl) rfl ?_
    refine r_iload_n (q := 28) dX10_doWash_27 rfl rfl rfl ?_
    refine r_if_ne (q := 40) (q2 := 31) dX10_doWash_28 (by decide) rfl (fun h28 => ?_) (fun h28 => ?_)
    · rw [if_neg h28] at hp
      refine r_aload_n (q := 41) dX10_doWash_40 rfl rfl rfl ?_
      refine r_getfield (q := 44) dX10_doWash_41 f_X10_doWash_9 md_g0 rfl rfl ?_
      refine r_bipush (q := 46) (v := 7) dX10_doWash_44 (by decide) rfl ?_
      refine r_ldS (q := 47) (k := 7) dX10_doWash_46 (by decide) rfl ?_
      refine r_iload_n (q := 48) dX10_doWash_47 rfl rfl rfl ?_
      refine r_icmp_ge (q := 68) (q2 := 51) dX10_doWash_48 (by decide) rfl (fun h48 => ?_) (fun h48 => ?_)
      · rw [if_pos h48] at hp
        refine r_aload_n (q := 69) dX10_doWash_68 rfl rfl rfl ?_
        refine r_getfield (q := 72) dX10_doWash_69 f_X10_doWash_9 md_g0 rfl rfl ?_
        refine r_bipush (q := 74) (v := 7) dX10_doWash_72 (by decide) rfl ?_
        refine r_dup2 (q := 75) dX10_doWash_74 rfl rfl rfl ?_
        refine r_ldS (q := 76) (k := 7) dX10_doWash_75 (by decide) rfl ?_
        refine r_iload_n (q := 77) dX10_doWash_76 rfl rfl rfl ?_
        refine r_isub (q := 78) dX10_doWash_77 rfl ?_
        refine r_stS (q := 79) (k := 7) dX10_doWash_78 (by decide) rfl ?_
        refine r_aload_n (q := 80) dX10_doWash_79 rfl rfl rfl ?_
        refine r_getfield (q := 83) dX10_doWash_80 f_X10_doWash_9 md_g0 rfl rfl ?_
        refine r_iconst (q := 84) (v := 5) dX10_doWash_83 rfl rfl ?_
        refine r_dup2 (q := 85) dX10_doWash_84 rfl rfl rfl ?_
        refine r_ldS (q := 86) (k := 5) dX10_doWash_85 (by decide) rfl ?_
        refine r_iload_n (q := 87) dX10_doWash_86 rfl rfl rfl ?_
        refine r_isub (q := 88) dX10_doWash_87 rfl ?_
        refine r_stS (q := 89) (k := 5) dX10_doWash_88 (by decide) rfl ?_
        refine r_aload_n (q := 90) dX10_doWash_89 rfl rfl rfl ?_
        refine r_getfield (q := 93) dX10_doWash_90 f_X10_doWash_9 md_g0 rfl rfl ?_
        refine r_iconst (q := 94) (v := 4) dX10_doWash_93 rfl rfl ?_
        refine r_dup2 (q := 95) dX10_doWash_94 rfl rfl rfl ?_
        refine r_ldS (q := 96) (k := 4) dX10_doWash_95 (by decide) rfl ?_
        refine r_iload_n (q := 97) dX10_doWash_96 rfl rfl rfl ?_
        refine r_iadd (q := 98) dX10_doWash_97 rfl ?_
        refine r_stS (q := 99) (k := 4) dX10_doWash_98 (by decide) rfl ?_
        refine r_iload_n (q := 100) dX10_doWash_99 rfl rfl rfl ?_
        refine r_iret dX10_doWash_100 rfl (Nat.le_of_ble_eq_true rfl) (Nat.le_of_ble_eq_true rfl) ?_
        exact hp
      · rw [if_neg h48] at hp
        refine r_aload_n (q := 52) dX10_doWash_51 rfl rfl rfl ?_
        refine r_iconst (q := 53) (v := 2) dX10_doWash_52 rfl rfl ?_
        refine r_bipush (q := 55) (v := 12) dX10_doWash_53 (by decide) rfl ?_
        refine r_iload_n (q := 56) dX10_doWash_55 rfl rfl rfl ?_
        refine r_aload_n (q := 57) dX10_doWash_56 rfl rfl rfl ?_
        refine r_getfield (q := 60) dX10_doWash_57 f_X10_doWash_9 md_g0 rfl rfl ?_
        refine r_bipush (q := 62) (v := 7) dX10_doWash_60 (by decide) rfl ?_
        refine r_ldS (q := 63) (k := 7) dX10_doWash_62 (by decide) rfl ?_
        refine r_isub (q := 64) dX10_doWash_63 rfl ?_
        refine r_callV (q := 67) (ci := 12) (As := [_, _, _]) dX10_doWash_64 s_X10_doWash_108 md_g0 rfl rfl rfl (Nat.le_of_ble_eq_true rfl) rfl rfl rfl (Nat.le_of_ble_eq_true rfl) (Nat.le_of_ble_eq_true rfl) ⟨(Nat.le_of_ble_eq_true rfl), (Nat.le_of_ble_eq_true rfl)⟩ rfl ?_
        refine ct_X10_refuse ?_
        show WF _ E Po _ _ _ _ _ _ _
        refine r_iret dX10_doWash_67 rfl (Nat.le_of_ble_eq_true rfl) (Nat.le_of_ble_eq_true rfl) ?_
        exact hp
    · rw [if_pos h28] at hp
      refine r_aload_n (q := 32) dX10_doWash_31 rfl rfl rfl ?_
      refine r_iconst (q := 33) (v := 2) dX10_doWash_32 rfl rfl ?_
      refine r_bipush (q := 35) (v := 13) dX10_doWash_33 (by decide) rfl ?_
      refine r_iconst (q := 36) (v := 0) dX10_doWash_35 rfl rfl ?_
      refine r_callV (q := 39) (ci := 12) (As := [_, _, _]) dX10_doWash_36 s_X10_doWash_108 md_g0 rfl rfl rfl (Nat.le_of_ble_eq_true rfl) rfl rfl rfl (Nat.le_of_ble_eq_true rfl) (Nat.le_of_ble_eq_true rfl) ⟨(Nat.le_of_ble_eq_true rfl), (Nat.le_of_ble_eq_true rfl)⟩ rfl ?_
      refine ct_X10_refuse ?_
      show WF _ E Po _ _ _ _ _ _ _
      refine r_iret dX10_doWash_39 rfl (Nat.le_of_ble_eq_true rfl) (Nat.le_of_ble_eq_true rfl) ?_
      exact hp
  · show WF _ E Po _ _ _ _ _ _ _
    rw [if_pos hi] at hp
    refine r_if_ne (q := 16) (q2 := 10) dX10_doWash_7 (by decide) rfl (fun h9 => absurd rfl h9) (fun _ => ?_)
    refine r_aload_n (q := 11) dX10_doWash_10 rfl rfl rfl ?_
    refine r_iconst (q := 12) (v := 1) dX10_doWash_11 rfl rfl ?_
    refine r_callV (q := 15) (ci := 12) (As := [_]) dX10_doWash_12 s_X10_doWash_104 md_g0 rfl rfl rfl (Nat.le_of_ble_eq_true rfl) rfl rfl rfl (Nat.le_of_ble_eq_true rfl) (Nat.le_of_ble_eq_true rfl) ⟨(Nat.le_of_ble_eq_true rfl), (Nat.le_of_ble_eq_true rfl)⟩ rfl ?_
    refine ct_X10_fails ?_
    show WF _ E Po _ _ _ _ _ _ _
    refine r_iret dX10_doWash_15 rfl (Nat.le_of_ble_eq_true rfl) (Nat.le_of_ble_eq_true rfl) ?_
    exact hp
set_option maxRecDepth 100000 in
set_option maxHeartbeats 4000000 in
theorem ct_X10_doSoap {E : xE} {Po : xPo} {w : xW} {m : Nat} {d : xCo} {r : mRs} {o : Nat → Int32} {t : mTx} {x : Int32} (hc : True) (hp : Po (.inl (some (.int (mSoap d x).2.1))) (md E w m (mSoap d x).2.2 r (dO o (mSoap d x).1 1 2) t)) : Ct M_X10_doSoap E [.ref m, .int x] (md E w m d r o t) Po := by
  refine Ct.of (ws2 := xAll) (L := [some (.ref m), some (.int x), none]) (by decide +kernel) rfl rfl (List.forall_mem_cons.mpr ⟨rfl, List.forall_mem_cons.mpr ⟨rfl, fun _ h => absurd h List.not_mem_nil⟩⟩) (Nat.le_of_ble_eq_true rfl) rfl ?_
  unfold mSoap mn at hp
  refine r_iload_n (q := 1) dX10_doSoap_0 rfl rfl rfl ?_
  refine r_iconst (q := 2) (v := 1) dX10_doSoap_1 rfl rfl ?_
  refine r_bipush (q := 4) (v := 20) dX10_doSoap_2 (by decide) rfl ?_
  refine r_callS (q := 7) (As := [_, _, _]) dX10_doSoap_4 s_X10_doSoap_85 rfl rfl (Nat.le_of_ble_eq_true rfl) rfl rfl rfl (Nat.le_of_ble_eq_true rfl) (Nat.le_of_ble_eq_true rfl) ⟨(Nat.le_of_ble_eq_true rfl), (Nat.le_of_ble_eq_true rfl)⟩ rfl ?_
  refine ct_X10_in (fun hi => ?_) (fun hi => ?_)
  · show WF _ E Po _ _ _ _ _ _ _
    rw [if_neg hi] at hp
    refine r_if_ne (q := 16) (q2 := 10) dX10_doSoap_7 (by decide) rfl (fun _ => ?_) (fun h9 => absurd h9 (by decide))
    refine r_iload_n (q := 17) dX10_doSoap_16 rfl rfl rfl ?_
    refine r_bipush (q := 19) (v := 99) dX10_doSoap_17 (by decide) rfl ?_
    refine r_aload_n (q := 20) dX10_doSoap_19 rfl rfl rfl ?_
    refine r_getfield (q := 23) dX10_doSoap_20 f_X10_doSoap_9 md_g0 rfl rfl ?_
    refine r_bipush (q := 25) (v := 6) dX10_doSoap_23 (by decide) rfl ?_
    refine r_ldS (q := 26) (k := 6) dX10_doSoap_25 (by decide) rfl ?_
    refine r_isub (q := 27) dX10_doSoap_26 rfl ?_
    refine r_mmin (q := 30) dX10_doSoap_27 p_X10_doSoap_164 (Nat.le_of_ble_eq_true rfl) rfl (Nat.le_of_ble_eq_true rfl) (Nat.le_of_ble_eq_true rfl) ?_
    refine r_istore_n (q := 31) dX10_doSoap_30 rfl (Nat.le_of_ble_eq_true rfl) (xone_of rfl) rfl ?_
    refine r_aload_n (q := 32) dX10_doSoap_31 rfl rfl rfl ?_
    refine r_getfield (q := 35) dX10_doSoap_32 f_X10_doSoap_9 md_g0 rfl rfl ?_
    refine r_bipush (q := 37) (v := 7) dX10_doSoap_35 (by decide) rfl ?_
    refine r_ldS (q := 38) (k := 7) dX10_doSoap_37 (by decide) rfl ?_
    refine r_iload_n (q := 39) dX10_doSoap_38 rfl rfl rfl ?_
    refine r_icmp_ge (q := 59) (q2 := 42) dX10_doSoap_39 (by decide) rfl (fun h39 => ?_) (fun h39 => ?_)
    · rw [if_pos h39] at hp
      refine r_aload_n (q := 60) dX10_doSoap_59 rfl rfl rfl ?_
      refine r_getfield (q := 63) dX10_doSoap_60 f_X10_doSoap_9 md_g0 rfl rfl ?_
      refine r_bipush (q := 65) (v := 7) dX10_doSoap_63 (by decide) rfl ?_
      refine r_dup2 (q := 66) dX10_doSoap_65 rfl rfl rfl ?_
      refine r_ldS (q := 67) (k := 7) dX10_doSoap_66 (by decide) rfl ?_
      refine r_iload_n (q := 68) dX10_doSoap_67 rfl rfl rfl ?_
      refine r_isub (q := 69) dX10_doSoap_68 rfl ?_
      refine r_stS (q := 70) (k := 7) dX10_doSoap_69 (by decide) rfl ?_
      refine r_aload_n (q := 71) dX10_doSoap_70 rfl rfl rfl ?_
      refine r_getfield (q := 74) dX10_doSoap_71 f_X10_doSoap_9 md_g0 rfl rfl ?_
      refine r_bipush (q := 76) (v := 6) dX10_doSoap_74 (by decide) rfl ?_
      refine r_dup2 (q := 77) dX10_doSoap_76 rfl rfl rfl ?_
      refine r_ldS (q := 78) (k := 6) dX10_doSoap_77 (by decide) rfl ?_
      refine r_iload_n (q := 79) dX10_doSoap_78 rfl rfl rfl ?_
      refine r_iadd (q := 80) dX10_doSoap_79 rfl ?_
      refine r_stS (q := 81) (k := 6) dX10_doSoap_80 (by decide) rfl ?_
      refine r_aload_n (q := 82) dX10_doSoap_81 rfl rfl rfl ?_
      refine r_getfield (q := 85) dX10_doSoap_82 f_X10_doSoap_9 md_g0 rfl rfl ?_
      refine r_bipush (q := 87) (v := 6) dX10_doSoap_85 (by decide) rfl ?_
      refine r_ldS (q := 88) (k := 6) dX10_doSoap_87 (by decide) rfl ?_
      refine r_iret dX10_doSoap_88 rfl (Nat.le_of_ble_eq_true rfl) (Nat.le_of_ble_eq_true rfl) ?_
      exact hp
    · rw [if_neg h39] at hp
      refine r_aload_n (q := 43) dX10_doSoap_42 rfl rfl rfl ?_
      refine r_iconst (q := 44) (v := 2) dX10_doSoap_43 rfl rfl ?_
      refine r_bipush (q := 46) (v := 12) dX10_doSoap_44 (by decide) rfl ?_
      refine r_iload_n (q := 47) dX10_doSoap_46 rfl rfl rfl ?_
      refine r_aload_n (q := 48) dX10_doSoap_47 rfl rfl rfl ?_
      refine r_getfield (q := 51) dX10_doSoap_48 f_X10_doSoap_9 md_g0 rfl rfl ?_
      refine r_bipush (q := 53) (v := 7) dX10_doSoap_51 (by decide) rfl ?_
      refine r_ldS (q := 54) (k := 7) dX10_doSoap_53 (by decide) rfl ?_
      refine r_isub (q := 55) dX10_doSoap_54 rfl ?_
      refine r_callV (q := 58) (ci := 12) (As := [_, _, _]) dX10_doSoap_55 s_X10_doSoap_108 md_g0 rfl rfl rfl (Nat.le_of_ble_eq_true rfl) rfl rfl rfl (Nat.le_of_ble_eq_true rfl) (Nat.le_of_ble_eq_true rfl) ⟨(Nat.le_of_ble_eq_true rfl), (Nat.le_of_ble_eq_true rfl)⟩ rfl ?_
      refine ct_X10_refuse ?_
      show WF _ E Po _ _ _ _ _ _ _
      refine r_iret dX10_doSoap_58 rfl (Nat.le_of_ble_eq_true rfl) (Nat.le_of_ble_eq_true rfl) ?_
      exact hp
  · show WF _ E Po _ _ _ _ _ _ _
    rw [if_pos hi] at hp
    refine r_if_ne (q := 16) (q2 := 10) dX10_doSoap_7 (by decide) rfl (fun h9 => absurd rfl h9) (fun _ => ?_)
    refine r_aload_n (q := 11) dX10_doSoap_10 rfl rfl rfl ?_
    refine r_iconst (q := 12) (v := 1) dX10_doSoap_11 rfl rfl ?_
    refine r_callV (q := 15) (ci := 12) (As := [_]) dX10_doSoap_12 s_X10_doSoap_104 md_g0 rfl rfl rfl (Nat.le_of_ble_eq_true rfl) rfl rfl rfl (Nat.le_of_ble_eq_true rfl) (Nat.le_of_ble_eq_true rfl) ⟨(Nat.le_of_ble_eq_true rfl), (Nat.le_of_ble_eq_true rfl)⟩ rfl ?_
    refine ct_X10_fails ?_
    show WF _ E Po _ _ _ _ _ _ _
    refine r_iret dX10_doSoap_15 rfl (Nat.le_of_ble_eq_true rfl) (Nat.le_of_ble_eq_true rfl) ?_
    exact hp
