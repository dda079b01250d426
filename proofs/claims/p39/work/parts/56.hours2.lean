/-! ===== 56.hours2: what adds up goes on adding up hour by hour; who waits ===== -/
theorem DT.ext {f g : Nat → Int32} (D : DT f) (h0 : g 0 = f 0) (h3 : g 3 = f 3) (h5 : g 5 = f 5) : DT g := by
  unfold DT
  rw [h0, h3, h5]
  exact D
theorem bb_z {x : Int32} (h : bb x = 0) : x = 0 := by
  unfold bb at h
  split at h
  · assumption
  · exact absurd h (by decide)
theorem tail_same {c : xCo} {u j : Nat} : (tailS c u j).1 = c.1 ∧ (tailS c u j).2.2.1 = c.2.2.1 ∧ ∀ a k, k ≠ 4 → (tailS c u j).2.1 a k = c.2.1 a k := by
  obtain ⟨b1, b2, b3⟩ := burnS_1 (c := c) (h := c.2.2.1 u 2)
  unfold tailS
  split
  · exact ⟨rfl, rfl, fun a k hk => up2_2 hk⟩
  · split
    · exact ⟨b1, b3, fun a k hk => (up2_2 hk).trans (by rw [b2])⟩
    · exact ⟨b1, b3, fun a k hk => (up2_2 hk).trans (by rw [b2])⟩
/-- a bath -/
def BT (c d : xCo) (i j : Nat) : Prop := (d.1 2 = c.1 2 ∧ d.1 4 = c.1 4 ∧ d.1 5 = c.1 5 + 1 ∧ d.1 8 = c.1 8 ∧ d.1 9 = c.1 9 + 1) ∧ (∀ a, d.2.1 a 6 = if a = j then c.2.1 j 6 + 1 else c.2.1 a 6) ∧
  (∀ u k, d.2.2.1 u k = if u = i then (if k = 3 then c.2.2.1 i 3 + 1 else if k = 4 then c.2.2.1 i 4 - 1 else shF (c.2.2.1 i) 5 k) else c.2.2.1 u k) ∧ ∀ a, a < 8 → DT (d.2.1 a)
theorem bathe_bt {c : xCo} {i j z l : Nat} (D : ∀ a, a < 8 → a ≠ j → DT (c.2.1 a)) (f0 : c.2.1 j 0 = nI z) (f3 : c.2.1 j 3 = nI l) (hz : z ≤ 3) (hl : l ≤ 100 * z) (h0 : 0 < l) : BT c (batheS c i j) i j := by
  have U : ∀ u k, (batheS c i j).2.2.1 u k = if u = i then (if k = 3 then c.2.2.1 i 3 + 1 else if k = 4 then c.2.2.1 i 4 - 1 else shF (c.2.2.1 i) 5 k) else c.2.2.1 u k := by
    intro u k
    have e : (batheS c i j).2.2.1 = (bthB (bthA c j) i).2.2.1 := by
      unfold batheS bthD
      split <;> rfl
    rw [e]
    show up2 (up2 (fun a b => if a = i then shF (c.2.2.1 a) 5 b else c.2.2.1 a b) i 4 (c.2.2.1 i 4 - 1)) i 3 (up2 (fun a b => if a = i then shF (c.2.2.1 a) 5 b else c.2.2.1 a b) i 4 (c.2.2.1 i 4 - 1) i 3 + 1) u k = _
    by_cases h : u = i
    · subst h
      rw [if_pos rfl]
      by_cases h3 : k = 3
      · subst h3
        rw [up2_s, if_pos rfl, up2_2 (by decide), if_pos rfl, show shF (c.2.2.1 u) 5 3 = c.2.2.1 u 3 from if_neg (by omega)]
      · rw [up2_2 h3, if_neg h3]
        by_cases h4 : k = 4
        · subst h4
          rw [up2_s, if_pos rfl]
        · rw [up2_2 h4, if_neg h4, if_pos rfl]
    · rw [if_neg h, up2_1 h, up2_1 h, if_neg h]
  have T : ∀ a k, k ≠ 2 → (batheS c i j).2.1 a k = (bthC c j).2.1 a k := by
    intro a k hk
    unfold batheS bthD
    split
    · exact up2_2 hk
    · rfl
  have S : (batheS c i j).1 = (bthA c j).1 := by
    unfold batheS bthD
    split <;> rfl
  have V : ∀ a k, k ≠ 2 → k ≠ 5 → k ≠ 6 → (batheS c i j).2.1 a k = c.2.1 a k := fun a k h2 h5 h6 => (T a k h2).trans ((up2_2 h6).trans (up2_2 h5))
  refine ⟨⟨?_, ?_, ?_, ?_, ?_⟩, fun a => ?_, U, fun a ha => ?_⟩
  · rw [S]; rfl
  · rw [S]; rfl
  · rw [S]; rfl
  · rw [S]; rfl
  · rw [S]; rfl
  · rw [T a 6 (by decide)]
    by_cases h : a = j
    · subst h
      rw [if_pos rfl]
      exact up2_s.trans (congrArg (· + 1) (up2_2 (by decide)))
    · rw [if_neg h]
      exact (up2_1 h).trans (up2_1 h)
  · by_cases h : a = j
    · subst h
      refine ⟨fun q => ?_, z, l, hz, hl, (V a 0 (by decide) (by decide) (by decide)).trans f0, (V a 3 (by decide) (by decide) (by decide)).trans f3⟩
      rw [V a 3 (by decide) (by decide) (by decide), f3] at q
      have := nI_inj (a := l) (b := 0) (by omega) (by decide) q
      omega
    · exact (D a ha h).ext (V a 0 (by decide) (by decide) (by decide)) (V a 3 (by decide) (by decide) (by decide)) ((T a 5 (by decide)).trans ((up2_1 h).trans (up2_1 h)))
/-- an hour in a tent: a bath, or none -/
theorem hr_case {K : Nat} {c : xCo} {i : Nat} (J : J9 K c) (hi5 : i < 5) (D : ∀ a, a < 8 → DT (c.2.1 a)) : ((hourInS c i).1 = c.1 ∧ (hourInS c i).2.2.1 = c.2.2.1 ∧ (∀ a, (hourInS c i).2.1 a 6 = c.2.1 a 6) ∧ ∀ a, a < 8 → DT ((hourInS c i).2.1 a)) ∨ (∃ j, j < 8 ∧ ¬ c.2.2.1 i 4 ≤ 0 ∧ BT c (hourInS c i) i j) := by
  unfold hourInS
  by_cases h : okT c (c.2.2.1 i 1)
  · rw [if_pos h]
    obtain ⟨j, hj, hj8, e⟩ := okT_n J h
    rw [e, nI_cl (by omega)]
    obtain ⟨D5, z, l, hz, hl, f0, f3⟩ := D j hj8
    obtain ⟨b, hb, eb⟩ := (J.2.2.1 j hj8).2.1
    have d01 := (J.2.2.1 j hj8).2.2.2.2.1
    obtain ⟨-, v, hv, ev⟩ := bc_tm b hb
    have z0 : z ≠ 0 := fun q => J.2.2.2.2.2.2.2 j hj (by rw [f0, q]; rfl)
    have e1 : mx 0 (c.2.1 j 3 - 5 * bcS (c.2.1 j 2)) = nI (l - 5 * v) := by
      rw [f3, eb, ev, show (5 : Int32) * nI v = nI (5 * v) from pk_mul 5 v]
      exact mx0 (by omega) (by omega)
    rw [e1]
    have hl1 : l - 5 * v ≤ 100 * z := by omega
    generalize l - 5 * v = l1 at hl1
    have q0 : (cT c j 3 (nI l1)).2.1 j 0 = nI z := (up2_2 (by decide)).trans f0
    have q3 : (cT c j 3 (nI l1)).2.1 j 3 = nI l1 := up2_s
    have q5 : (cT c j 3 (nI l1)).2.1 j 5 = c.2.1 j 5 := up2_2 (by decide)
    have o9 : ∀ a, a < 8 → a ≠ j → DT ((cT c j 3 (nI l1)).2.1 a) := fun a ha h => by
      show DT (up2 c.2.1 j 3 (nI l1) a)
      rw [up2_n h]; exact D a ha
    have s6 : ∀ a, (cT c j 3 (nI l1)).2.1 a 6 = c.2.1 a 6 := fun a => up2_2 (by decide)
    have s1 : (cT c j 3 (nI l1)).1 = c.1 := rfl
    have s2 : (cT c j 3 (nI l1)).2.2.1 = c.2.2.1 := rfl
    generalize cT c j 3 (nI l1) = c1 at q0 q3 q5 o9 s6 s1 s2
    unfold hour2S
    have hm : (100 : Int32) * nI z = nI (100 * z) := pk_mul 100 z
    rw [q0, q3, q5, hm]
    by_cases h5 : bb (c.2.1 j 5) = 0
    · have f5 := bb_z h5
      rw [if_pos h5]
      by_cases hf : nI (100 * z) ≤ nI l1
      · rw [if_pos hf]
        have hf1 : 100 * z ≤ l1 := (nI_leI (by omega) (by omega)).mp hf
        have tl : ((tailS c1 i j).1 = c.1 ∧ (tailS c1 i j).2.2.1 = c.2.2.1 ∧ (∀ a, (tailS c1 i j).2.1 a 6 = c.2.1 a 6) ∧ ∀ a, a < 8 → DT ((tailS c1 i j).2.1 a)) := by
          obtain ⟨t1, t2, t3⟩ := tail_same (c := c1) (u := i) (j := j)
          refine ⟨t1.trans s1, t2.trans s2, fun a => (t3 a 6 (by decide)).trans (s6 a), fun a ha => ?_⟩
          by_cases q : a = j
          · subst q
            exact ⟨fun _ => (t3 a 5 (by decide)).trans (q5.trans f5), z, l1, hz, hl1, (t3 a 0 (by decide)).trans q0, (t3 a 3 (by decide)).trans q3⟩
          · exact (o9 a ha q).ext (t3 a 0 (by decide)) (t3 a 3 (by decide)) (t3 a 5 (by decide))
        split
        · exact Or.inl tl
        · split
          · exact Or.inl tl
          · split
            · exact Or.inl tl
            · rename_i w1 w2 w3
              refine Or.inr ⟨j, hj8, by rw [← s2]; exact w2, ?_⟩
              obtain ⟨⟨b1, b2, b3, b4, b5⟩, b6, b7, b8⟩ := bathe_bt (i := i) o9 q0 q3 hz hl1 (by omega)
              refine ⟨⟨b1.trans (by rw [s1]), b2.trans (by rw [s1]), b3.trans (by rw [s1]), b4.trans (by rw [s1]), b5.trans (by rw [s1])⟩, fun a => ?_, fun u k => ?_, b8⟩
              · rw [b6 a, s6, s6]
              · rw [b7 u k, s2]
      · rw [if_neg hf]
        refine Or.inl ⟨s1, s2, fun a => (up2_2 (by decide)).trans ((up2_2 (by decide)).trans (s6 a)), fun a ha => ?_⟩
        show DT (up2 (up2 c1.2.1 j 4 _) j 3 (nI (100 * z)) a)
        by_cases q : a = j
        · subst q
          rw [up2_r, up2_r]
          exact DT.k3 hz ((upd_o (by decide)).trans q0) (Nat.le_refl _) (fun _ => (upd_o (by decide)).trans (q5.trans f5))
        · rw [up2_n q, up2_n q]; exact o9 a ha q
    · rw [if_neg h5]
      obtain ⟨⟨s, hs, es⟩, -⟩ := J.2.2.2.1 i hi5
      have e2 : mx 0 (nI l1 - (20 + 10 * c1.2.2.1 i 0)) = nI (l1 - (20 + 10 * s)) := by
        rw [s2, es, show (10 : Int32) * nI s = nI (10 * s) from pk_mul 10 s, show (20 : Int32) + nI (10 * s) = nI (20 + 10 * s) from nI_add 20 (10 * s)]
        exact mx0 (by omega) (by omega)
      rw [e2]
      have hl2 : l1 - (20 + 10 * s) ≤ 100 * z := by omega
      generalize l1 - (20 + 10 * s) = l2 at hl2
      by_cases hl0 : nI l2 = 0
      · rw [if_pos hl0]
        refine Or.inl ⟨s1, s2, fun a => (up2_2 (by decide)).trans ((up2_2 (by decide)).trans (s6 a)), fun a ha => ?_⟩
        show DT (up2 (up2 c1.2.1 j 3 (nI l2)) j 5 0 a)
        by_cases q : a = j
        · subst q
          rw [up2_r, up2_r]
          exact DT.k5 ⟨z, l2, hz, hl2, (upd_o (by decide)).trans q0, upd_s⟩
        · rw [up2_n q, up2_n q]; exact o9 a ha q
      · rw [if_neg hl0]
        refine Or.inl ⟨s1, s2, fun a => (up2_2 (by decide)).trans (s6 a), fun a ha => ?_⟩
        show DT (up2 c1.2.1 j 3 (nI l2) a)
        by_cases q : a = j
        · subst q
          rw [up2_r]
          exact DT.k3 hz q0 hl2 (fun q => absurd (show nI l2 = 0 by rw [q]; rfl) hl0)
        · rw [up2_n q]; exact o9 a ha q
  · rw [if_neg h]
    exact Or.inl ⟨rfl, rfl, fun _ => rfl, D⟩
/-- who waits -/
def AW (c : xCo) (x : Int32) : Prop := ∃ u p, u < n2 c ∧ p < wt c u ∧ c.2.2.1 u (5 + p) = x
def aB (c : xCo) (g : Nat) : Nat := if awtS c (nI g) (n2 c) 0 = 0 then 0 else 1
theorem gat_in {f : Nat → Int32} {w p : Nat} (hw : w ≤ 6) (h4 : f 4 = nI w) (hp : p < w) : gAtS f (nI p) = f (5 + p) := by
  unfold gAtS
  rw [if_neg, nI_cl (by omega)]
  rintro (h | h | h)
  · exact nI_pos (by omega) h
  · rw [h4] at h
    have := (nI_leI (by omega) (by omega)).mp h
    omega
  · have := (nI_leI (a := 6) (by decide) (by omega)).mp h
    omega
theorem gat_out {f : Nat → Int32} {w p : Nat} (hw : w ≤ 6) (h4 : f 4 = nI w) (hp : w ≤ p) (hp2 : p < 1000) : gAtS f (nI p) = -1 := by
  unfold gAtS
  rw [if_pos]
  refine Or.inr (Or.inl ?_)
  rw [h4]
  exact nI_le hp (by omega)
theorem aws_iff {f : Nat → Int32} {x : Int32} {w : Nat} (hw : w ≤ 6) (h4 : f 4 = nI w) : ∀ n j, j + n ≤ w → (awS f x n j = 0 ↔ ∀ p, j ≤ p → p < j + n → f (5 + p) ≠ x)
  | 0, j, _ => ⟨fun _ p h1 h2 => by omega, fun _ => rfl⟩
  | n + 1, j, h => by
    unfold awS
    rw [gat_in hw h4 (show j < w by omega)]
    by_cases q : f (5 + j) = x
    · rw [if_pos q]
      exact ⟨fun z => absurd z (by decide), fun z => absurd q (z j (Nat.le_refl _) (by omega))⟩
    · rw [if_neg q, aws_iff hw h4 n (j + 1) (by omega)]
      refine ⟨fun z p h1 h2 => ?_, fun z p h1 h2 => z p (by omega) (by omega)⟩
      by_cases e : p = j
      · subst e; exact q
      · exact z p (by omega) (by omega)
theorem awt_iff {c : xCo} {x : Int32} : ∀ n j, awtS c x n j = 0 ↔ ∀ u, j ≤ u → u < j + n → awS (c.2.2.1 u) x (wt c u) 0 = 0
  | 0, j => ⟨fun _ u h1 h2 => by omega, fun _ => rfl⟩
  | n + 1, j => by
    unfold awtS
    by_cases q : awS (c.2.2.1 j) x (c.2.2.1 j 4).toNatClampNeg 0 = 0
    · rw [if_pos q, awt_iff n (j + 1)]
      refine ⟨fun z u h1 h2 => ?_, fun z u h1 h2 => z u (by omega) (by omega)⟩
      by_cases e : u = j
      · subst e; exact q
      · exact z u (by omega) (by omega)
    · rw [if_neg q]
      exact ⟨fun z => absurd z (by decide), fun z => absurd (z j (Nat.le_refl _) (by omega)) q⟩
theorem aw_iff {K : Nat} {c : xCo} (J : J9 K c) {x : Int32} : awtS c x (n2 c) 0 = 0 ↔ ¬ AW c x := by
  have n5 := J.1.2.1.2
  rw [awt_iff]
  refine ⟨fun h ⟨u, p, h1, h2, h3⟩ => ?_, fun h u _ hu => ?_⟩
  · obtain ⟨w1, w2⟩ := J.wtq (u := u) (by omega)
    exact (aws_iff w2 w1 (wt c u) 0 (by omega)).mp (h u (Nat.zero_le _) (by omega)) p (Nat.zero_le _) (by omega) h3
  · obtain ⟨w1, w2⟩ := J.wtq (u := u) (by omega)
    exact (aws_iff w2 w1 (wt c u) 0 (by omega)).mpr (fun p _ hp z => h ⟨u, p, by omega, by omega, z⟩)
theorem aB_1 {K : Nat} {c : xCo} (J : J9 K c) {g : Nat} (h : AW c (nI g)) : aB c g = 1 := if_neg (fun q => (aw_iff J).mp q h)
theorem aB_0 {K : Nat} {c : xCo} (J : J9 K c) {g : Nat} (h : ¬ AW c (nI g)) : aB c g = 0 := if_pos ((aw_iff J).mpr h)
def s9 (c : xCo) : Nat := (c.1 9).toNatClampNeg
/-- time goes by: nobody joins, each who leaves has bathed -/
def ST (m : Nat) (c d : xCo) : Prop := n2 d = n2 c ∧ (∀ x, AW d x → AW c x) ∧ ∀ M, m ≤ M → M < 1000000 → sN (aB d) M + s9 d = sN (aB c) M + s9 c
theorem ST.tr {m : Nat} {c d e : xCo} (a : ST m c d) (b : ST m d e) : ST m c e := ⟨b.1.trans a.1, fun x h => a.2.1 x (b.2.1 x h), fun M h1 h2 => (b.2.2 M h1 h2).trans (a.2.2 M h1 h2)⟩
theorem awt_e {c d : xCo} {x : Int32} (h : d.2.2.1 = c.2.2.1) : ∀ n j, awtS d x n j = awtS c x n j
  | 0, _ => rfl
  | n + 1, j => by
    unfold awtS
    rw [h, awt_e h n (j + 1)]
theorem ST.same {m : Nat} {c d : xCo} (h2 : d.1 2 = c.1 2) (h9 : d.1 9 = c.1 9) (ht : d.2.2.1 = c.2.2.1) : ST m c d := by
  have e2 : n2 d = n2 c := congrArg Int32.toNatClampNeg h2
  refine ⟨e2, fun x ⟨u, p, a, b, e⟩ => ⟨u, p, by rw [← e2]; exact a, by unfold wt at b ⊢; rw [← ht]; exact b, by rw [← ht]; exact e⟩, fun M _ _ => ?_⟩
  have : aB d = aB c := by
    funext g
    unfold aB
    rw [e2, awt_e ht]
  rw [this]
  unfold s9
  rw [h9]
/-- the first leaves to bathe -/
theorem gq_bt {K m : Nat} {c d : xCo} {i j : Nat} (J : J9 K c) (Jd : J9 (K + 1) d) (G : GQ m c) (hm : m < 1000000) (hK : K < 16000000) (hi : i < n2 c) (hj : j < 8) (hw : ¬ c.2.2.1 i 4 ≤ 0) (B : BT c d i j) : GQ m d ∧ ST m c d := by
  have n5 := J.1.2.1.2
  obtain ⟨cl, us, ca, ba, ⟨a1, a2, a3, a4⟩, ⟨b1, b2, b3⟩, ⟨e1, e2⟩, f, ⟨g1, g2, g3⟩, D⟩ := G
  obtain ⟨⟨x2, x4, x5, x8, x9⟩, t6, U, Dd⟩ := B
  obtain ⟨w1, w2⟩ := J.wtq (u := i) (by omega)
  have w0 : 1 ≤ wt c i := by
    have : ¬ wt c i = 0 := fun q => hw (by rw [w1, q]; decide)
    omega
  have nd : n2 d = n2 c := congrArg Int32.toNatClampNeg x2
  have W : ∀ u, wt d u = if u = i then wt c i - 1 else wt c u := by
    intro u
    unfold wt
    rw [U u 4]
    by_cases q : u = i
    · rw [if_pos q, if_pos q, if_neg (by decide), if_pos rfl, w1, show nI (wt c i) - 1 = nI (wt c i - 1) from pk_sub (b := 1) w0]
      rw [nI_cl (by omega), nI_cl (by omega)]
    · rw [if_neg q, if_neg q]
  have P : ∀ u p, u < 5 → p < wt d u → (u = i ∧ p + 1 < wt c i ∧ d.2.2.1 u (5 + p) = c.2.2.1 i (5 + (p + 1))) ∨ (u ≠ i ∧ p < wt c u ∧ d.2.2.1 u (5 + p) = c.2.2.1 u (5 + p)) := by
    intro u p hu hp
    rw [W u] at hp
    by_cases q : u = i
    · rw [if_pos q] at hp
      refine Or.inl ⟨q, by omega, ?_⟩
      rw [U u (5 + p), if_pos q, if_neg (by omega), if_neg (by omega)]
      unfold shF
      rw [if_pos (by omega)]
      rfl
    · rw [if_neg q] at hp
      exact Or.inr ⟨q, hp, (U u (5 + p)).trans (if_neg q)⟩
  have SW : sN (wt d) 5 + 1 = sN (wt c) 5 := by
    have h := sN_up (f := wt c) (g := wt d) (k := i) 5 (by omega) (fun u _ hu => (W u).trans (if_neg hu))
    rw [(W i).trans (if_pos rfl)] at h
    omega
  have bi := e1 i (by omega)
  have mb := sN_mem (f := bt c) (k := i) 5 (by omega)
  have SB : sN (bt d) 5 = sN (bt c) 5 + 1 := by
    have hb : ∀ u, bt d u = if u = i then bt c i + 1 else bt c u := by
      intro u
      unfold bt
      rw [U u 3]
      by_cases q : u = i
      · rw [if_pos q, if_pos q, if_pos rfl]
        have : c.2.2.1 i 3 = nI (bt c i) := bi
        rw [this, nI_1, nI_cl (by omega), nI_cl (by omega)]
      · rw [if_neg q, if_neg q]
    have h := sN_up (f := bt c) (g := bt d) (k := i) 5 (by omega) (fun u _ hu => (hb u).trans (if_neg hu))
    rw [(hb i).trans (if_pos rfl)] at h
    omega
  have ST6 : sN (tbn d) 8 = sN (tbn c) 8 + 1 := by
    obtain ⟨kb, kb1, kb2⟩ := (J.2.2.1 j hj).2.2.2.2.2.1
    have hb : ∀ a, tbn d a = if a = j then tbn c j + 1 else tbn c a := by
      intro a
      unfold tbn
      rw [t6 a]
      by_cases q : a = j
      · rw [if_pos q, if_pos q, kb2, nI_1, nI_cl (by omega), nI_cl (by omega)]
      · rw [if_neg q, if_neg q]
    have h := sN_up (f := tbn c) (g := tbn d) (k := j) 8 hj (fun u _ hu => (hb u).trans (if_neg hu))
    rw [(hb j).trans (if_pos rfl)] at h
    omega
  obtain ⟨g0, hg0, eg0⟩ := g1 i (by omega) 0 (by omega)
  refine ⟨⟨cl, us + 1, ca, ba + 1, ⟨x4.trans a1, x5.trans (by rw [a2, nI_1]), x8.trans a3, x9.trans (by rw [a4, nI_1])⟩, ⟨by omega, by omega, b3⟩, ⟨fun u hu => ?_, by omega⟩, by omega, ⟨fun u hu p hp => ?_, fun u v p q hu hv hp hq z => ?_, fun u p hu hp => ?_⟩, Dd⟩, nd, ?_, fun M h1 h2 => ?_⟩
  · have e9 : d.2.2.1 u 3 = if u = i then nI (bt c i + 1) else c.2.2.1 u 3 := by
      rw [U u 3]
      by_cases q : u = i
      · rw [if_pos q, if_pos q, if_pos rfl, bi, nI_1]
      · rw [if_neg q, if_neg q]
    unfold bt
    rw [e9]
    by_cases q : u = i
    · rw [if_pos q, nI_cl (by omega)]
    · rw [if_neg q]; exact e1 u hu
  · rcases P u p hu hp with ⟨h1, h2, h3⟩ | ⟨h1, h2, h3⟩
    · obtain ⟨g, hg, eg⟩ := g1 i (by omega) (p + 1) h2
      exact ⟨g, hg, h3.trans eg⟩
    · obtain ⟨g, hg, eg⟩ := g1 u hu p h2
      exact ⟨g, hg, h3.trans eg⟩
  · rcases P u p hu hp with ⟨h1, h2, h3⟩ | ⟨h1, h2, h3⟩
    · rcases P v q hv hq with ⟨k1, k2, k3⟩ | ⟨k1, k2, k3⟩
      · rw [h3, k3] at z
        have := g2 i i _ _ (by omega) (by omega) h2 k2 z
        exact ⟨h1.trans k1.symm, by omega⟩
      · rw [h3, k3] at z
        have := g2 i v _ _ (by omega) hv h2 k2 z
        exact absurd this.1.symm k1
    · rcases P v q hv hq with ⟨k1, k2, k3⟩ | ⟨k1, k2, k3⟩
      · rw [h3, k3] at z
        have := g2 u i _ _ hu (by omega) h2 k2 z
        exact absurd this.1 h1
      · rw [h3, k3] at z
        exact g2 u v p q hu hv h2 k2 z
  · rcases P u (p + 1) hu hp with ⟨h1, h2, h3⟩ | ⟨h1, h2, h3⟩
    · rcases P u p hu (by omega) with ⟨k1, k2, k3⟩ | ⟨k1, k2, k3⟩
      · rw [h3, k3]; exact g3 i (p + 1) (by omega) h2
      · exact absurd h1 k1
    · rcases P u p hu (by omega) with ⟨k1, k2, k3⟩ | ⟨k1, k2, k3⟩
      · exact absurd k1 h1
      · rw [h3, k3]; exact g3 u p hu h2
  · rintro x ⟨u, p, q1, q2, q3⟩
    rw [nd] at q1
    rcases P u p (by omega) q2 with ⟨h1, h2, h3⟩ | ⟨h1, h2, h3⟩
    · exact ⟨i, p + 1, hi, h2, h3.symm.trans q3⟩
    · exact ⟨u, p, q1, h2, h3.symm.trans q3⟩
  · have A0 : AW c (nI g0) := ⟨i, 0, hi, by omega, eg0⟩
    have A1 : ¬ AW d (nI g0) := by
      rintro ⟨u, p, q1, q2, q3⟩
      rw [nd] at q1
      rcases P u p (by omega) q2 with ⟨k1, k2, k3⟩ | ⟨k1, k2, k3⟩
      · have := g2 i i _ _ (by omega) (by omega) k2 (by omega) (k3.symm.trans (q3.trans eg0.symm))
        omega
      · exact k1 (g2 u i _ _ (by omega) (by omega) k2 (by omega) (k3.symm.trans (q3.trans eg0.symm))).1
    have A2 : ∀ g, g < M → g ≠ g0 → aB d g = aB c g := by
      intro g hg hne
      by_cases q : AW c (nI g)
      · rw [aB_1 J q]
        refine aB_1 Jd ?_
        obtain ⟨u, p, q1, q2, q3⟩ := q
        by_cases ui : u = i
        · subst ui
          have p0 : p ≠ 0 := fun z => by
            subst z
            rw [eg0] at q3
            exact hne (nI_inj (by omega) (by omega) q3.symm)
          refine ⟨u, p - 1, by rw [nd]; exact q1, by rw [W u, if_pos rfl]; omega, ?_⟩
          rcases P u (p - 1) (by omega) (by rw [W u, if_pos rfl]; omega) with ⟨k1, k2, k3⟩ | ⟨k1, k2, k3⟩
          · rw [k3, show p - 1 + 1 = p by omega]; exact q3
          · exact absurd rfl k1
        · refine ⟨u, p, by rw [nd]; exact q1, by rw [W u, if_neg ui]; exact q2, ?_⟩
          rw [U u (5 + p), if_neg ui]; exact q3
      · rw [aB_0 J q]
        refine aB_0 Jd (fun z => q ?_)
        obtain ⟨u, p, q1, q2, q3⟩ := z
        rw [nd] at q1
        rcases P u p (by omega) q2 with ⟨k1, k2, k3⟩ | ⟨k1, k2, k3⟩
        · exact ⟨i, p + 1, hi, k2, k3.symm.trans q3⟩
        · exact ⟨u, p, q1, k2, k3.symm.trans q3⟩
    have h := sN_up (f := aB c) (g := aB d) (k := g0) M (by omega) A2
    rw [aB_1 J A0, aB_0 Jd A1] at h
    have e9 : s9 d = s9 c + 1 := by
      unfold s9
      rw [x9, a4, nI_1, nI_cl (by omega), nI_cl (by omega)]
    omega
theorem gq_hr {K m : Nat} {c : xCo} {i : Nat} (J : J9 K c) (G : GQ m c) (hm : m < 1000000) (hK : K < 16000000) (hi : i < n2 c) : J9 (K + 1) (hourInS c i) ∧ GQ m (hourInS c i) ∧ ST m c (hourInS c i) := by
  have n5 := J.1.2.1.2
  obtain ⟨q, q1, -, -, J1, -⟩ := sim_hr R9.rfl9 J hK hi
  refine ⟨J1, ?_⟩
  obtain ⟨cl, us, ca, ba, a, b, e, f, Q, D⟩ := id G
  rcases hr_case J (i := i) (by omega) D with ⟨h1, h2, h3, h4⟩ | ⟨j, hj, hw, B⟩
  · exact ⟨G.ag J ⟨⟨by rw [h1], by rw [h1], by rw [h1], by rw [h1]⟩, fun u _ k _ _ => by rw [h2], fun j _ => h3 j, fun _ => h4⟩, ST.same (by rw [h1]) (by rw [h1]) h2⟩
  · exact gq_bt J J1 G hm hK hi hj hw B
theorem gq_hrs : ∀ (n K m i : Nat) (c : xCo), J9 K c → GQ m c → m < 1000000 → K + n < 16000000 → i + n = n2 c → J9 (K + n) (hrsT n i c) ∧ GQ m (hrsT n i c) ∧ ST m c (hrsT n i c)
  | 0, _, _, _, _, J, G, _, _, _ => ⟨J, G, ST.same rfl rfl rfl⟩
  | n + 1, K, m, i, c, J, G, hm, hK, hi => by
    obtain ⟨J1, G1, S1⟩ := gq_hr (i := i) J G hm (by omega) (by omega)
    obtain ⟨J2, G2, S2⟩ := gq_hrs n (K + 1) m (i + 1) _ J1 G1 hm (by omega) (by rw [S1.1]; omega)
    exact ⟨by rw [show K + (n + 1) = K + 1 + n by omega]; exact J2, G2, S1.tr S2⟩
theorem gq_hour {K m : Nat} {c : xCo} (J : J9 K c) (G : GQ m c) (hm : m < 1000000) (hK : K + 5 < 16000000) : J9 (K + 5) (hourS c) ∧ GQ m (hourS c) ∧ ST m c (hourS c) := by
  have n5 := J.1.2.1.2
  unfold hourS
  have J0 := j_S (k := 0) (x := c.1 0 + 1) J (by decide) (Nat.le_refl _) (J.2.1.ko (Nat.le_refl _) (by decide))
  have G0 : GQ m (cS c 0 (c.1 0 + 1)) := G.ag J (AG.id.S (by decide))
  have e2 := (n_cS (c := c) (k := 0) (x := c.1 0 + 1) (by decide)).2.1
  obtain ⟨J1, G1, S1⟩ := gq_hrs (n2 c) K m 0 _ J0 G0 hm (by omega) (by rw [e2]; omega)
  exact ⟨J1.mono (by omega), G1, (ST.same (d := cS c 0 (c.1 0 + 1)) (cS_o (k := 0) (j := 2) (by decide)) (cS_o (k := 0) (j := 9) (by decide)) rfl : ST m c (cS c 0 (c.1 0 + 1))).tr S1⟩
theorem gq_hours : ∀ (n K m : Nat) (c : xCo), J9 K c → GQ m c → m < 1000000 → K + 5 * n < 16000000 → J9 (K + 5 * n) (hoursS n c) ∧ GQ m (hoursS n c) ∧ ST m c (hoursS n c)
  | 0, _, _, _, J, G, _, _ => ⟨J, G, ST.same rfl rfl rfl⟩
  | n + 1, K, m, c, J, G, hm, hK => by
    obtain ⟨J1, G1, S1⟩ := gq_hour J G hm (by omega)
    obtain ⟨J2, G2, S2⟩ := gq_hours n (K + 5) m _ J1 G1 hm (by omega)
    exact ⟨by rw [show K + 5 * (n + 1) = K + 5 + 5 * n by omega]; exact J2, G2, S1.tr S2⟩
theorem pass_in {c : xCo} {y : Nat} (h1 : 1 ≤ y) (h2 : y ≤ 48) : passS c (nI y) = ((hoursS y c).1 9 - c.1 9, hoursS y c) := by
  unfold passS
  rw [if_neg (show ¬ nI y < 1 from nI_nlt (b := 1) h1 (by omega)), if_pos (show nI y ≤ 48 from nI_le (b := 48) h2 (by decide)), nI_cl (by omega)]
theorem dr_pass {K m : Nat} {c : xCo} {y : Nat} (J : J9 K c) (G : GQ m c) (hm : m < 1000000) (hK : K + 240 < 16000000) (h1 : 1 ≤ y) (h2 : y ≤ 48) : DR K m c (passS c (nI y)) := by
  have y1 : ¬ nI y < 1 := nI_nlt (b := 1) h1 (by omega)
  have y2 : nI y ≤ 48 := nI_le (b := 48) h2 (by decide)
  refine dr_of (sim_pass R9.rfl9 J hK) (Or.inl ?_) (Or.inr ?_)
  · unfold mPass; rw [if_neg (fun q => q.elim y1 (fun q => Int32.not_le.mpr q y2))]
  · rw [pass_in h1 h2]
    exact (gq_hours y K m c J G hm (by omega)).2.1
