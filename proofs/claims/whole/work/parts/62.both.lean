/-! ===== 62.both: the hire and the reference, side by side ===== -/
def EQ9 (c e : xCo) : Prop := (∀ k, k < 10 → e.1 k = c.1 k) ∧ (∀ i, i < 8 → e.2.1 i = c.2.1 i) ∧ (∀ i, i < 5 → e.2.2.1 i = c.2.2.1 i) ∧ (∀ i, i < 4 → e.2.2.2 i = c.2.2.2 i)
theorem eq_cp {c p : xCo} : EQ9 p (cpS c p) := ⟨fun _ h => if_pos h, fun _ h => if_pos h, fun _ h => if_pos h, fun _ h => if_pos h⟩
theorem EQ9.n {c e : xCo} (h : EQ9 c e) : n1 e = n1 c ∧ n2 e = n2 c ∧ n3 e = n3 c := ⟨congrArg Int32.toNatClampNeg (h.1 1 (by decide)), congrArg Int32.toNatClampNeg (h.1 2 (by decide)), congrArg Int32.toNatClampNeg (h.1 3 (by decide))⟩
theorem R9.eq {c d c2 d2 : xCo} (R : R9 c d) (N : JN c) (hc : EQ9 c c2) (hd : EQ9 d d2) : R9 c2 d2 := by
  obtain ⟨e1, e2, e3⟩ := hc.n
  obtain ⟨⟨-, b1⟩, ⟨-, b2⟩, -, b3⟩ := N
  unfold R9
  rw [e1, e2, e3]
  refine ⟨fun k hk => ?_, fun j hj => ?_, fun u hu k hk => ?_, fun g hg k hk => ?_⟩
  · rw [hc.1 k hk, hd.1 k hk]; exact R.1 k hk
  · rw [hc.2.1 j (by omega), hd.2.1 j (by omega)]; exact R.2.1 j hj
  · rw [hc.2.2.1 u (by omega), hd.2.2.1 u (by omega)]; exact R.2.2.1 u hu k hk
  · rw [hc.2.2.2 g (by omega), hd.2.2.2 g (by omega)]; exact R.2.2.2 g hg k hk
theorem J9.eq {K : Nat} {c e : xCo} (J : J9 K c) (h : EQ9 c e) : J9 K e := by
  obtain ⟨e1, e2, e3⟩ := h.n
  obtain ⟨a, b, t, u, g, ⟨l1, l2, l3, l4⟩, ⟨f1, f2, f3⟩, z⟩ := J
  obtain ⟨h1, h2, h3, h4⟩ := h
  obtain ⟨⟨-, b1⟩, ⟨-, b2⟩, -, b3⟩ := id a
  refine ⟨?_, b.ext h1, fun j hj => by rw [h2 j hj]; exact t j hj, fun j hj => by rw [h3 j hj]; exact u j hj, fun j hj => by rw [h4 j hj]; exact g j hj, ⟨fun j hj => ?_, fun j hj => ?_, fun j hj => ?_, fun j hj => ?_⟩, ⟨fun j q hj => ?_, fun j q hj => ?_, fun j q hj => ?_⟩, fun j hj => ?_⟩
  · unfold JN
    rw [e1, e2, e3, h1 1 (by decide), h1 2 (by decide), h1 3 (by decide)]
    exact a
  · rw [h2 j hj, e2]
    rcases l1 j hj with y | ⟨v, y1, y2, y3⟩
    · exact Or.inl y
    · exact Or.inr ⟨v, y1, y2, by rw [h3 v (by omega)]; exact y3⟩
  · rw [h3 j hj, e1]
    rcases l2 j hj with y | ⟨v, y1, y2, y3⟩
    · exact Or.inl y
    · exact Or.inr ⟨v, y1, y2, by rw [h2 v (by omega)]; exact y3⟩
  · rw [h3 j hj, e3]
    rcases l3 j hj with y | ⟨v, y1, y2, y3⟩
    · exact Or.inl y
    · exact Or.inr ⟨v, y1, y2, by rw [h4 v (by omega)]; exact y3⟩
  · rw [h4 j hj, e2]
    rcases l4 j hj with y | ⟨v, y1, y2, y3⟩
    · exact Or.inl y
    · exact Or.inr ⟨v, y1, y2, by rw [h3 v (by omega)]; exact y3⟩
  · rw [h2 j hj]; exact f1 j (by rw [← e1]; exact q) hj
  · rw [h3 j hj]; exact f2 j (by rw [← e2]; exact q) hj
  · rw [h4 j hj]; exact f3 j (by rw [← e3]; exact q) hj
  · rw [e1] at hj
    rw [h2 j (by omega)]; exact z j hj
theorem UD.eq {d e : xCo} (U : UD d) (h : EQ9 d e) : UD e := by
  obtain ⟨e1, e2, e3⟩ := h.n
  obtain ⟨a, b, c, g, q⟩ := U
  obtain ⟨h1, h2, h3, h4⟩ := h
  refine ⟨fun j hj => ?_, fun j y hj => ?_, fun j y hj => ?_, fun j y hj => ?_, fun j hj => ?_⟩
  · rw [h2 j hj]; exact a j hj
  · rw [h2 j hj]; exact b j (by rw [← e1]; exact y) hj
  · rw [h3 j hj]; exact c j (by rw [← e2]; exact y) hj
  · rw [h4 j hj]; exact g j (by rw [← e3]; exact y) hj
  · rw [h3 j hj]; exact q j hj
/-- a store and a row that mean the same -/
def G9 (K : Nat) (c d : xCo) : Prop := R9 c d ∧ J9 K c ∧ UD d
theorem G9.cp {K : Nat} {c d p q : xCo} (h : G9 K p q) : G9 K (cpS c p) (cpS d q) := ⟨h.1.eq h.2.1.1 eq_cp eq_cp, h.2.1.eq eq_cp, h.2.2.eq eq_cp⟩
theorem G9.cpl {K : Nat} {c p q : xCo} (h : G9 K p q) : G9 K (cpS c p) q := ⟨h.1.eq h.2.1.1 eq_cp ⟨fun _ _ => rfl, fun _ _ => rfl, fun _ _ => rfl, fun _ _ => rfl⟩, h.2.1.eq eq_cp, h.2.2⟩
theorem G9.mono {K K2 : Nat} {c d : xCo} (h : G9 K c d) (hk : K ≤ K2) : G9 K2 c d := ⟨h.1, h.2.1.mono hk, h.2.2⟩
def PX (K n nx : Nat) (h q : Nat → xCo) : Prop := ∀ i, i < n → G9 K (h (3 + (nx + 9 - n + i) % 9)) (q i)
/-- THE TWO, SIDE BY SIDE -/
def IV (K : Nat) (h : xHi) (d : xCo) (r : mRs) (o : Nat → Int32) (t : mTx) : Prop :=
  (G9 K (h.1 0) d ∧ KR (h.1 0) d) ∧
  (o 0 = h.2.2.2.1.1 ∧ (o 0 = 0 ∨ (o 0 = 1 ∧ G9 K (h.1 2) r.2.2.1))) ∧
  (∃ n, n ≤ 8 ∧ h.2.1.1 < 9 ∧ h.2.1.2 = nI n ∧ o 1 = nI n ∧ PX K n h.2.1.1 h.1 r.2.2.2) ∧
  (∃ n, n ≤ 60 ∧ h.2.2.1.1 0 = nI n ∧ o 7 = nI n ∧ h.2.2.1.2.2 = t.2.1) ∧
  o 10 = h.2.2.2.1.2 ∧
  (∃ l, hasL h.2.2.2.2 l ∧ l.length ≤ 60 ∧ o 6 = nI l.length ∧ ∀ k, k < l.length → t.1 k = l.getD k 0)
theorem IV.oo {K : Nat} {h : xHi} {d : xCo} {r : mRs} {o o2 : Nat → Int32} {t : mTx} (I : IV K h d r o t) (e : ∀ i, i = 0 ∨ i = 1 ∨ i = 6 ∨ i = 7 ∨ i = 10 → o2 i = o i) : IV K h d r o2 t := by
  unfold IV
  rw [e 0 (by decide), e 1 (by decide), e 6 (by decide), e 7 (by decide), e 10 (by decide)]
  exact I
theorem IV.mono {K K2 : Nat} {h : xHi} {d : xCo} {r : mRs} {o : Nat → Int32} {t : mTx} (I : IV K h d r o t) (hk : K ≤ K2) : IV K2 h d r o t := by
  obtain ⟨⟨a, b⟩, ⟨c, e⟩, ⟨n, f1, f2, f3, f4, f5⟩, g⟩ := I
  exact ⟨⟨a.mono hk, b⟩, ⟨c, e.imp id (fun q => ⟨q.1, q.2.mono hk⟩)⟩, ⟨n, f1, f2, f3, f4, fun i hi => (f5 i hi).mono hk⟩, g⟩
theorem o_2 {o : Nat → Int32} {x : Int32} : ∀ i, i = 0 ∨ i = 1 ∨ i = 6 ∨ i = 7 ∨ i = 10 → upd o 2 x i = o i := fun i h => upd_o (by omega)
theorem o_25 {o : Nat → Int32} {x y z : Int32} : ∀ i, i = 0 ∨ i = 1 ∨ i = 6 ∨ i = 7 ∨ i = 10 → upd (upd (upd o 2 x) 2 y) 5 z i = o i := fun i h => (upd_o (by omega)).trans ((upd_o (by omega)).trans (upd_o (by omega)))
/-- a change noted, kept, or given up -/
theorem hN_0 {h : xHi} : (hN h).1 0 = h.1 0 := if_neg (by omega)
theorem hN_2 {h : xHi} : (hN h).1 2 = h.1 2 := if_neg (by omega)
theorem hN_s {h : xHi} : (hN h).1 (3 + h.2.1.1) = cpS (h.1 (3 + h.2.1.1)) (h.1 0) := if_pos rfl
theorem hN_o {h : xHi} {i : Nat} (e : i ≠ h.2.1.1) : (hN h).1 (3 + i) = h.1 (3 + i) := if_neg (by omega)
theorem px_n {K n : Nat} {h : xHi} {c : xCo} {q : Nat → xCo} (hn : n ≤ 8) (hx : h.2.1.1 < 9) (p : PX K n h.2.1.1 h.1 q) : PX K n h.2.1.1 (upS (hN h) 0 c).1 q := by
  intro i hi
  show G9 K (if 3 + (h.2.1.1 + 9 - n + i) % 9 = 0 then c else (hN h).1 (3 + (h.2.1.1 + 9 - n + i) % 9)) (q i)
  rw [if_neg (by omega), hN_o (by omega)]
  exact p i hi
theorem px_k {K n : Nat} {h : xHi} {c d : xCo} {q : Nat → xCo} (hn : n ≤ 8) (hx : h.2.1.1 < 9) (g : G9 K (h.1 0) d) (p : PX K n h.2.1.1 h.1 q) : PX K (cnt1 n) ((h.2.1.1 + 1) % 9) (upS (hN h) 0 c).1 (pPush n q d) := by
  intro i hi
  show G9 K (if 3 + ((h.2.1.1 + 1) % 9 + 9 - cnt1 n + i) % 9 = 0 then c else (hN h).1 (3 + ((h.2.1.1 + 1) % 9 + 9 - cnt1 n + i) % 9)) (pPush n q d i)
  rw [if_neg (by omega)]
  unfold pPush cnt1 at *
  by_cases h8 : n = 8
  · subst h8
    rw [if_pos rfl] at hi ⊢
    rw [if_pos rfl]
    unfold pU pSh
    by_cases i7 : i = 7
    · subst i7
      rw [if_pos rfl, show ((h.2.1.1 + 1) % 9 + 9 - 8 + 7) % 9 = h.2.1.1 by omega, hN_s]
      exact g.cpl
    · rw [if_neg i7, if_pos (show i < 7 by omega), hN_o (by omega), show ((h.2.1.1 + 1) % 9 + 9 - 8 + i) % 9 = (h.2.1.1 + 9 - 8 + (i + 1)) % 9 by omega]
      exact p (i + 1) (by omega)
  · rw [if_neg h8] at hi ⊢
    rw [if_neg h8]
    unfold pU
    by_cases i7 : i = n
    · subst i7
      rw [if_pos rfl, show ((h.2.1.1 + 1) % 9 + 9 - (i + 1) + i) % 9 = h.2.1.1 by omega, hN_s]
      exact g.cpl
    · rw [if_neg i7, hN_o (by omega), show ((h.2.1.1 + 1) % 9 + 9 - (n + 1) + i) % 9 = (h.2.1.1 + 9 - n + i) % 9 by omega]
      exact p i (by omega)
theorem ct_k {n : Nat} (hn : n ≤ 8) : (if nI n + 1 < 8 then nI n + 1 else 8) = nI (cnt1 n) := by
  unfold cnt1
  rw [nI_1]
  by_cases h : n + 1 < 8
  · rw [if_pos (show nI (n + 1) < 8 from nI_lt (b := 8) h (by decide)), if_neg (show ¬ n = 8 by omega)]
  · rw [if_neg (show ¬ nI (n + 1) < 8 from fun q => h (nI_nlt' (a := 8) (b := n + 1) (by decide) (by omega) q))]
    by_cases h8 : n = 8
    · rw [if_pos h8]; rfl
    · rw [if_neg h8, show n = 7 by omega]; rfl
theorem cnt1_le {n : Nat} (h : n ≤ 8) : cnt1 n ≤ 8 := by
  unfold cnt1
  split
  · exact Nat.le_refl _
  · omega
theorem kr_cR {c d : xCo} {a b : Int32} : KR (cR c a b) (cR d a b) := ⟨by show upd (upd d.1 10 a) 11 b 10 = upd (upd c.1 10 a) 11 b 10; rw [upd_o (by decide), upd_s, upd_o (by decide), upd_s], by show upd (upd d.1 10 a) 11 b 11 = upd (upd c.1 10 a) 11 b 11; rw [upd_s, upd_s]⟩
section IVC
variable {K : Nat} {h : xHi} {d : xCo} {r : mRs} {o : Nat → Int32} {t : mTx}
theorem iv_keep {c2 d2 : xCo} {n : Nat} (I : IV K h d r o t) (hn : n ≤ 8) (en : o 1 = nI n) (g : G9 (K + 15000) c2 d2) (k : KR c2 d2) : IV (K + 15000) (hK (upS (hN h) 0 c2)) d2 (d, r.2.1, r.2.2.1, pPush n r.2.2.2 d) (upd (upd o 2 0) 1 (nI (cnt1 n))) t := by
  obtain ⟨⟨a, b⟩, ⟨c, e⟩, ⟨n9, f1, f2, f3, f4, f5⟩, ⟨n60, q1, q2, q3, q4⟩, q5, l, q6, q7, q8, q9⟩ := I
  obtain rfl : n = n9 := nI_inj (by omega) (by omega) (en.symm.trans f4)
  refine ⟨⟨g, k⟩, ⟨c, e.imp id (fun q => ⟨q.1, ?_⟩)⟩, ⟨cnt1 n, cnt1_le hn, Nat.mod_lt _ (by decide), ?_, upd_s, ?_⟩, ⟨n60, q1, q2, q3, q4⟩, q5, l, q6, q7, q8, q9⟩
  · show G9 _ ((hN h).1 2) _
    rw [hN_2]; exact q.2.mono (by omega)
  · show (if h.2.1.2 + 1 < 8 then h.2.1.2 + 1 else 8) = _
    rw [f3]; exact ct_k hn
  · exact fun i hi => (px_k hn f2 a f5 i hi).mono (by omega)
theorem iv_back {c2 d2 : xCo} {o2 : Nat → Int32} (I : IV K h d r o t) (g : G9 K c2 d2) (k : KR c2 d2) (ho : ∀ i, i = 0 ∨ i = 1 ∨ i = 6 ∨ i = 7 ∨ i = 10 → o2 i = o i) : IV K (upS (hN h) 0 c2) d2 (d, r.2) o2 t := by
  refine IV.oo (o := o) ?_ ho
  obtain ⟨⟨a, b⟩, ⟨c, e⟩, ⟨n9, f1, f2, f3, f4, f5⟩, q⟩ := I
  refine ⟨⟨g, k⟩, ⟨c, e.imp id (fun q => ⟨q.1, ?_⟩)⟩, ⟨n9, f1, f2, f3, f4, px_n f1 f2 f5⟩, q⟩
  show G9 _ ((hN h).1 2) _
  rw [hN_2]; exact q.2
/-- how a call ends: with the value, or with the k-th of these throws -/
def rs (Xs : List String) (k : Nat) (v : Int32) : Option Value ⊕ String := if k = 0 then .inl (some (.int v)) else .inr (Xs.getD (k - 1) "")
/-- ONE CALL OF BOTH: told the same, and side by side again -/
def PR (M1 M2 : xM) (E : xE) (x m K : Nat) (h : xHi) (d : xCo) (r : mRs) (o : Nat → Int32) (t : mTx) (a1 a2 : List Value) (Xs : List String) : Prop :=
  ∀ w, HI E w x h → ∃ (k : Nat) (v v2 : Int32) (Qh : xHi → Prop) (Qo : xCo → mRs → (Nat → Int32) → mTx → Prop), k ≤ Xs.length ∧ (k = 0 → v2 = v) ∧
    (∀ Po : xPo, (∀ u h2, Qh h2 → (h2.2.2.2.2.1 = h.2.2.2.2.1 ∨ w.2 ≤ h2.2.2.2.2.1) → HI E u x h2 → Fr w u x h → Po (rs Xs k v) u) → Ct M1 E (.ref x :: a1) w Po) ∧
    (∀ (w2 : xW) (Po : xPo), (∀ d2 r2 o2 t2, Qo d2 r2 o2 t2 → Po (.inl (some (.int v2))) (md E w2 m d2 r2 o2 t2)) → Ct M2 E (.ref m :: a2) (md E w2 m d r o t) Po) ∧
    (∀ h2 d2 r2 o2 t2, Qh h2 → Qo d2 r2 o2 t2 → IV (K + 15000) h2 d2 r2 o2 t2 ∧ o2 2 = nI k)
theorem rs_0 {Xs : List String} {v : Int32} : rs Xs 0 v = .inl (some (.int v)) := rfl
/-- a call that changes -/
theorem pr_ch {M1 M2 : xM} {E : xE} {x m kA kU : Nat} {a1 a2 : List Value} {Xs : List String} {R : Int32 × xCo} {P : mOc} {a3 a9 : Int32} (I : IV K h d r o t) (S : OK9 K (h.1 0) d R P) (U : UD P.2.2) (k1 : R.1 ≠ -1 → KR (h.1 0) R.2) (k2 : P.1 = 0 → KR d P.2.2)
    (hI : P.1 = -2 → 1 ≤ Xs.length ∧ Xs.getD 0 "" = "java/lang/IndexOutOfBoundsException") (hA : P.1 = -3 → kA < Xs.length ∧ Xs.getD kA "" = "java/lang/IllegalArgumentException" ∧ a3 = nI (kA + 1)) (hU : P.1 = -1 → kU < Xs.length ∧ Xs.getD kU "" = "java/lang/UnsupportedOperationException" ∧ a9 = nI (kU + 1)) (hL : Xs.length < 100)
    (c1 : ∀ (w : xW) (Po : xPo), HI E w x h → hS Po w E x h (upS (hN h) 0 R.2) R.1 → Ct M1 E (.ref x :: a1) w Po)
    (c2 : ∀ (w2 : xW) (Po : xPo) (n : Nat), n ≤ 8 → o 1 = nI n → eP Po E w2 m o t r d n P a3 a9 → Ct M2 E (.ref m :: a2) (md E w2 m d r o t) Po) : PR M1 M2 E x m K h d r o t a1 a2 Xs := by
  intro w H
  obtain ⟨⟨⟨gR, gJ, gU⟩, gk⟩, -, ⟨n, f1, f2, f3, f4, f5⟩, -⟩ := id I
  obtain ⟨Pt, Pv, Pd⟩ := P
  obtain ⟨Rv, Rc⟩ := R
  have bld : ∀ {c : xCo} {g : xHi}, g = upS (hN h) 0 c → g.2.2.2.2.1 = h.2.2.2.2.1 := fun e => by rw [e]; rfl
  rcases S with ⟨t1, t2, ⟨v, tv, ev⟩, t3, t4⟩ | ⟨t1, t2, ta, tb, tn, t3, t4⟩ | ⟨t1, t2, t3, t4⟩ | ⟨t1, t2, t3, t4⟩
  · have t1' : Pt = 0 := t1
    have ev' : Rv = nI v := ev
    have t2' : Rv = Pv := t2
    subst t1'
    have nm : ∀ q : Int32, q < 0 → ¬ Rv = q := fun q hq e => by
      rw [e] at ev'
      rw [ev'] at hq
      exact nI_pos (by omega) hq
    refine ⟨0, Rv, Pv, fun g => g = hK (upS (hN h) 0 Rc), fun d2 r2 o2 t2 => d2 = Pd ∧ r2 = (d, r.2.1, r.2.2.1, pPush n r.2.2.2 d) ∧ o2 = upd (upd o 2 0) 1 (nI (cnt1 n)) ∧ t2 = t, Nat.zero_le _, fun _ => t2'.symm, fun Po hp => c1 w Po H ?_, fun w2 Po hp => c2 w2 Po n f1 f4 ?_, ?_⟩
    · unfold hS
      rw [if_neg (nm (-2) (by decide)), if_neg (nm (-3) (by decide)), if_neg (nm (-1) (by decide))]
      exact fun u hu fu => hp u _ rfl (Or.inl rfl) hu fu
    · unfold eP
      rw [show dO (upd o 2 0) ((0 : Int32), Pv, Pd).1 a3 a9 = upd o 2 0 from dO_0, if_pos (show upd o 2 0 2 ≤ 0 from (by decide : (0 : Int32) ≤ 0))]
      exact hp _ _ _ _ ⟨rfl, rfl, rfl, rfl⟩
    · rintro h2 d2 r2 o2 t2 rfl ⟨rfl, rfl, rfl, rfl⟩
      have kk1 : KR (h.1 0) Rc := k1 (nm (-1) (by decide))
      have kk2 : KR d d2 := k2 rfl
      refine ⟨iv_keep I f1 f4 ⟨t3, t4.mono (by omega), U⟩ ⟨kk2.1.trans (gk.1.trans kk1.1.symm), kk2.2.trans (gk.2.trans kk1.2.symm)⟩, ?_⟩
      exact (upd_o (by decide)).trans upd_s
  · have t1' : Pt = -1 := t1
    have t2' : Rv = -1 := t2
    have t3' : Rc = cR (h.1 0) ta tb := t3
    have t4' : Pd = cR d ta tb := t4
    subst t1' t2' t3' t4'
    obtain ⟨u1, u2, u3⟩ := hU rfl
    refine ⟨kU + 1, 0, 0, fun g => g = upS (hN h) 0 (cR (h.1 0) ta tb), fun d2 r2 o2 t2 => d2 = cR d ta tb ∧ r2 = (d, r.2) ∧ o2 = upd (upd (upd o 2 0) 2 a9) 5 1 ∧ t2 = t, by omega, fun _ => rfl, fun Po hp => c1 w Po H ?_, fun w2 Po hp => c2 w2 Po n f1 f4 ?_, ?_⟩
    · unfold hS
      rw [if_neg (show ¬ (-1 : Int32) = -2 by decide), if_neg (show ¬ (-1 : Int32) = -3 by decide), if_pos rfl]
      intro u hu fu
      have := hp u _ rfl (Or.inl rfl) hu fu
      rw [rs, if_neg (by omega), show kU + 1 - 1 = kU by omega, u2] at this
      exact this
    · unfold eP
      rw [show dO (upd o 2 0) ((-1 : Int32), Pv, cR d ta tb).1 a3 a9 = upd (upd (upd o 2 0) 2 a9) 5 1 from dO_1, if_neg (show ¬ upd (upd (upd o 2 0) 2 a9) 5 1 2 ≤ 0 from by
        rw [show upd (upd (upd o 2 0) 2 a9) 5 1 2 = a9 from (upd_o (by decide)).trans upd_s, u3]
        exact fun q => by have := (nI_leI (a := kU + 1) (b := 0) (by omega) (by decide)).mp q; omega), cpS_R]
      exact hp _ _ _ _ ⟨rfl, rfl, rfl, rfl⟩
    · rintro h2 d2 r2 o2 t2 rfl ⟨rfl, rfl, rfl, rfl⟩
      refine ⟨(iv_back I ⟨r_R gR trivial, j_R gJ, ud_R gU⟩ ⟨kr_cR.1, kr_cR.2⟩ o_25).mono (by omega), ?_⟩
      exact ((upd_o (by decide)).trans upd_s).trans u3
  · have t1' : Pt = -2 := t1
    have t2' : Rv = -2 := t2
    have t3' : Rc = h.1 0 := t3
    have t4' : Pd = d := t4
    subst t1' t2' t3' t4'
    obtain ⟨u1, u2⟩ := hI rfl
    refine ⟨1, 0, 0, fun g => g = upS (hN h) 0 (h.1 0), fun d2 r2 o2 t2 => d2 = Pd ∧ r2 = (Pd, r.2) ∧ o2 = upd (upd o 2 0) 2 1 ∧ t2 = t, u1, fun _ => rfl, fun Po hp => c1 w Po H ?_, fun w2 Po hp => c2 w2 Po n f1 f4 ?_, ?_⟩
    · unfold hS
      rw [if_pos rfl]
      intro u hu fu
      have := hp u _ rfl (Or.inl rfl) hu fu
      rw [rs, if_neg (by omega), show 1 - 1 = 0 by omega, u2] at this
      exact this
    · unfold eP
      rw [show dO (upd o 2 0) ((-2 : Int32), Pv, Pd).1 a3 a9 = upd (upd o 2 0) 2 1 from dO_2, if_neg (show ¬ upd (upd o 2 0) 2 1 2 ≤ 0 from (by decide : ¬ (1 : Int32) ≤ 0)), cpS_id]
      exact hp _ _ _ _ ⟨rfl, rfl, rfl, rfl⟩
    · rintro h2 d2 r2 o2 t2 rfl ⟨rfl, rfl, rfl, rfl⟩
      exact ⟨(iv_back I ⟨gR, gJ, gU⟩ gk (fun i hi => (o_2 i hi).trans (o_2 i hi))).mono (by omega), upd_s⟩
  · have t1' : Pt = -3 := t1
    have t2' : Rv = -3 := t2
    have t3' : Rc = h.1 0 := t3
    have t4' : Pd = d := t4
    subst t1' t2' t3' t4'
    obtain ⟨u1, u2, u3⟩ := hA rfl
    refine ⟨kA + 1, 0, 0, fun g => g = upS (hN h) 0 (h.1 0), fun d2 r2 o2 t2 => d2 = Pd ∧ r2 = (Pd, r.2) ∧ o2 = upd (upd o 2 0) 2 a3 ∧ t2 = t, by omega, fun _ => rfl, fun Po hp => c1 w Po H ?_, fun w2 Po hp => c2 w2 Po n f1 f4 ?_, ?_⟩
    · unfold hS
      rw [if_neg (show ¬ (-3 : Int32) = -2 by decide), if_pos rfl]
      intro u hu fu
      have := hp u _ rfl (Or.inl rfl) hu fu
      rw [rs, if_neg (by omega), show kA + 1 - 1 = kA by omega, u2] at this
      exact this
    · unfold eP
      rw [show dO (upd o 2 0) ((-3 : Int32), Pv, Pd).1 a3 a9 = upd (upd o 2 0) 2 a3 from dO_3, if_neg (show ¬ upd (upd o 2 0) 2 a3 2 ≤ 0 from by
        rw [upd_s, u3]
        exact fun q => by have := (nI_leI (a := kA + 1) (b := 0) (by omega) (by decide)).mp q; omega), cpS_id]
      exact hp _ _ _ _ ⟨rfl, rfl, rfl, rfl⟩
    · rintro h2 d2 r2 o2 t2 rfl ⟨rfl, rfl, rfl, rfl⟩
      exact ⟨(iv_back I ⟨gR, gJ, gU⟩ gk (fun i hi => (o_2 i hi).trans (o_2 i hi))).mono (by omega), upd_s.trans u3⟩
end IVC
