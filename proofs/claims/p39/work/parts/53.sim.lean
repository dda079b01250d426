/-! ===== 53.sim: the hire's store and the reference's row tell the same ===== -/
def n1 (c : xCo) : Nat := (c.1 1).toNatClampNeg
def n2 (c : xCo) : Nat := (c.1 2).toNatClampNeg
def n3 (c : xCo) : Nat := (c.1 3).toNatClampNeg
/-- the same, as far as anything can be asked: the warmth of no water is nobody's business -/
def R9 (c d : xCo) : Prop := (∀ k, k < 10 → c.1 k = d.1 k) ∧ (∀ j, j < n1 c → (∀ k, k < 7 → k ≠ 4 → c.2.1 j k = d.2.1 j k) ∧ (c.2.1 j 3 ≠ 0 → c.2.1 j 4 = d.2.1 j 4)) ∧ (∀ u, u < n2 c → ∀ k, k < 11 → c.2.2.1 u k = d.2.2.1 u k) ∧ (∀ g, g < n3 c → ∀ k, k < 2 → c.2.2.2 g k = d.2.2.2 g k)
/-- what a tub's numbers are, a tent's, a heater's -/
def LT (K : Nat) (f : Nat → Int32) : Prop := (∃ z, z ≤ 3 ∧ f 0 = nI z) ∧ (∃ b, b < 256 ∧ f 2 = nI b) ∧ (∃ l, l ≤ 300 ∧ f 3 = nI l) ∧ (∃ v, 10 ≤ v ∧ v ≤ 60 ∧ f 4 = nI v) ∧ (f 5 = 0 ∨ f 5 = 1) ∧ (∃ k, k ≤ K ∧ f 6 = nI k) ∧ (f 1 = -1 → f 3 = 0 ∧ f 5 = 0)
def LU (f : Nat → Int32) : Prop := (∃ s, s ≤ 9 ∧ f 0 = nI s) ∧ (∃ m, m ≤ 6 ∧ f 4 = nI m)
def LG (f : Nat → Int32) : Prop := ∃ g, g ≤ 60 ∧ f 0 = nI g
def JS (K : Nat) (f : Nat → Int32) : Prop := (∃ a, a ≤ K ∧ f 5 = nI a) ∧ (∃ a, a ≤ K ∧ f 8 = nI a) ∧ (∃ a, a ≤ K ∧ f 9 = nI a) ∧ (∃ a, a ≤ 99 ∧ f 6 = nI a) ∧ (∃ a, a ≤ 10 + 4 * K ∧ f 7 = nI a)
def JN (c : xCo) : Prop := (c.1 1 = nI (n1 c) ∧ n1 c ≤ 8) ∧ (c.1 2 = nI (n2 c) ∧ n2 c ≤ 5) ∧ (c.1 3 = nI (n3 c) ∧ n3 c ≤ 4)
def JL (c : xCo) : Prop := (∀ j, j < 8 → c.2.1 j 1 = -1 ∨ ∃ u, u < n2 c ∧ c.2.1 j 1 = nI u ∧ c.2.2.1 u 1 = nI j) ∧ (∀ u, u < 5 → c.2.2.1 u 1 = -1 ∨ ∃ j, j < n1 c ∧ c.2.2.1 u 1 = nI j ∧ c.2.1 j 1 = nI u) ∧ (∀ u, u < 5 → c.2.2.1 u 2 = -1 ∨ ∃ g, g < n3 c ∧ c.2.2.1 u 2 = nI g ∧ c.2.2.2 g 1 = nI u) ∧ (∀ g, g < 4 → c.2.2.2 g 1 = -1 ∨ ∃ u, u < n2 c ∧ c.2.2.2 g 1 = nI u ∧ c.2.2.1 u 2 = nI g)
def JF (c : xCo) : Prop := (∀ j, n1 c ≤ j → j < 8 → ∀ k, k < 7 → c.2.1 j k = tub0 k) ∧ (∀ u, n2 c ≤ u → u < 5 → ∀ k, k < 11 → c.2.2.1 u k = tnt0 k) ∧ (∀ g, n3 c ≤ g → g < 4 → ∀ k, k < 2 → c.2.2.2 g k = htr0 k)
/-- what the hire's store holds, K bounding what grows -/
def J9 (K : Nat) (c : xCo) : Prop := JN c ∧ JS K c.1 ∧ (∀ j, j < 8 → LT K (c.2.1 j)) ∧ (∀ u, u < 5 → LU (c.2.2.1 u)) ∧ (∀ g, g < 4 → LG (c.2.2.2 g)) ∧ JL c ∧ JF c ∧ (∀ j, j < n1 c → ¬ c.2.1 j 0 = 0)
theorem up2_r {f : Nat → Nat → Int32} {j k : Nat} {x : Int32} : up2 f j k x j = upd (f j) k x := by
  funext b
  by_cases e : b = k
  · subst e; exact (up2_s).trans upd_s.symm
  · rw [upd_o e]
    exact if_neg (fun h => e h.2)
theorem up2_n {f : Nat → Nat → Int32} {a j k : Nat} {x : Int32} (h : a ≠ j) : up2 f j k x a = f a := by
  funext b
  exact if_neg (fun q => h q.1)
theorem m1 : (-1 : Int32) < 0 := by decide
theorem nI_m1 {n : Nat} (h : n < 2147483648) : ¬ nI n = -1 := fun e => by
  have h1 := nI_pos (n := n) (by omega)
  rw [e] at h1
  exact h1 m1
theorem LT.mono {K K2 : Nat} {f : Nat → Int32} (h : LT K f) (hk : K ≤ K2) : LT K2 f := by
  obtain ⟨a, b, c, d, e, ⟨k, g1, g2⟩, g⟩ := h
  exact ⟨a, b, c, d, e, ⟨k, by omega, g2⟩, g⟩
theorem JS.mono {K K2 : Nat} {f : Nat → Int32} (h : JS K f) (hk : K ≤ K2) : JS K2 f := by
  obtain ⟨⟨a, a1, a2⟩, ⟨b, b1, b2⟩, ⟨c, c1, c2⟩, d, ⟨e, e1, e2⟩⟩ := h
  exact ⟨⟨a, by omega, a2⟩, ⟨b, by omega, b2⟩, ⟨c, by omega, c2⟩, d, ⟨e, by omega, e2⟩⟩
theorem J9.mono {K K2 : Nat} {c : xCo} (h : J9 K c) (hk : K ≤ K2) : J9 K2 c := by
  obtain ⟨a, b, d, e⟩ := h
  exact ⟨a, b.mono hk, fun j hj => (d j hj).mono hk, e⟩
theorem n_cS {c : xCo} {k : Nat} {x : Int32} (h : k ≠ 1 ∧ k ≠ 2 ∧ k ≠ 3) : n1 (cS c k x) = n1 c ∧ n2 (cS c k x) = n2 c ∧ n3 (cS c k x) = n3 c := by
  unfold n1 n2 n3
  refine ⟨congrArg _ (upd_o (fun e => h.1 e.symm)), congrArg _ (upd_o (fun e => h.2.1 e.symm)), congrArg _ (upd_o (fun e => h.2.2 e.symm))⟩
theorem jn_S {c : xCo} {k : Nat} {x : Int32} (H : JN c) (h : k ≠ 1 ∧ k ≠ 2 ∧ k ≠ 3) : JN (cS c k x) := by
  obtain ⟨e1, e2, e3⟩ := n_cS (c := c) (x := x) h
  unfold JN
  rw [e1, e2, e3, show (cS c k x).1 1 = c.1 1 from upd_o (fun e => h.1 e.symm), show (cS c k x).1 2 = c.1 2 from upd_o (fun e => h.2.1 e.symm), show (cS c k x).1 3 = c.1 3 from upd_o (fun e => h.2.2 e.symm)]
  exact H
theorem j_S {K K2 : Nat} {c : xCo} {k : Nat} {x : Int32} (H : J9 K c) (h : k ≠ 1 ∧ k ≠ 2 ∧ k ≠ 3) (hk : K ≤ K2) (hs : JS K2 (upd c.1 k x)) : J9 K2 (cS c k x) := by
  obtain ⟨a, b, t, u, g, l, f, z⟩ := H.mono hk
  obtain ⟨e1, e2, e3⟩ := n_cS (c := c) (x := x) h
  refine ⟨jn_S a h, hs, t, u, g, ?_, ?_, ?_⟩
  · unfold JL; rw [e1, e2, e3]; exact l
  · unfold JF; rw [e1, e2, e3]; exact f
  · rw [e1]; exact z
theorem j_T {K : Nat} {c : xCo} {j k : Nat} {x : Int32} (H : J9 K c) (hj : j < n1 c) (hk : k ≠ 0 ∧ k ≠ 1) (hl : LT K (upd (c.2.1 j) k x)) : J9 K (cT c j k x) := by
  obtain ⟨a, b, t, u, g, ⟨l1, l2, l3, l4⟩, ⟨f1, f2, f3⟩, z⟩ := H
  have e : ∀ i, (cT c j k x).2.1 i 1 = c.2.1 i 1 := fun i => if_neg (fun q => hk.2 q.2.symm)
  refine ⟨a, b, fun i hi => ?_, u, g, ⟨fun i hi => ?_, fun v hv => ?_, l3, l4⟩, ⟨fun i h1 h2 => ?_, f2, f3⟩, fun i hi => ?_⟩
  · show LT K (up2 c.2.1 j k x i)
    by_cases q : i = j
    · subst q; rw [up2_r]; exact hl
    · rw [up2_n q]; exact t i hi
  · rw [e]; exact l1 i hi
  · rcases l2 v hv with h | ⟨i, h1, h2, h3⟩
    · exact Or.inl h
    · exact Or.inr ⟨i, h1, h2, (e i).trans h3⟩
  · have q : i ≠ j := by
      intro q; subst q
      exact absurd hj (Nat.not_lt.mpr h1)
    show ∀ k_1, k_1 < 7 → up2 c.2.1 j k x i k_1 = tub0 k_1
    rw [up2_n q]; exact f1 i h1 h2
  · rw [show (cT c j k x).2.1 i 0 = c.2.1 i 0 from if_neg (fun q => hk.1 q.2.symm)]
    exact z i hi
theorem j_U {K : Nat} {c : xCo} {v k : Nat} {x : Int32} (H : J9 K c) (hv : v < n2 c) (hk : k ≠ 1 ∧ k ≠ 2) (hl : LU (upd (c.2.2.1 v) k x)) : J9 K (cU c v k x) := by
  obtain ⟨a, b, t, u, g, ⟨l1, l2, l3, l4⟩, ⟨f1, f2, f3⟩, z⟩ := H
  have e : ∀ i, (cU c v k x).2.2.1 i 1 = c.2.2.1 i 1 := fun i => if_neg (fun q => hk.1 q.2.symm)
  have e2 : ∀ i, (cU c v k x).2.2.1 i 2 = c.2.2.1 i 2 := fun i => if_neg (fun q => hk.2 q.2.symm)
  refine ⟨a, b, t, fun i hi => ?_, g, ⟨fun i hi => ?_, fun i hi => ?_, fun i hi => ?_, fun i hi => ?_⟩, ⟨f1, fun i h1 h2 => ?_, f3⟩, z⟩
  · show LU (up2 c.2.2.1 v k x i)
    by_cases q : i = v
    · subst q; rw [up2_r]; exact hl
    · rw [up2_n q]; exact u i hi
  · rcases l1 i hi with h | ⟨w, h1, h2, h3⟩
    · exact Or.inl h
    · exact Or.inr ⟨w, h1, h2, (e w).trans h3⟩
  · rw [e]; exact l2 i hi
  · rw [e2]; exact l3 i hi
  · rcases l4 i hi with h | ⟨w, h1, h2, h3⟩
    · exact Or.inl h
    · exact Or.inr ⟨w, h1, h2, (e2 w).trans h3⟩
  · have q : i ≠ v := by
      intro q; subst q
      exact absurd hv (Nat.not_lt.mpr h1)
    show ∀ k_1, k_1 < 11 → up2 c.2.2.1 v k x i k_1 = tnt0 k_1
    rw [up2_n q]; exact f2 i h1 h2
theorem j_G {K : Nat} {c : xCo} {v k : Nat} {x : Int32} (H : J9 K c) (hv : v < n3 c) (hk : k ≠ 1) (hl : LG (upd (c.2.2.2 v) k x)) : J9 K (cG c v k x) := by
  obtain ⟨a, b, t, u, g, ⟨l1, l2, l3, l4⟩, ⟨f1, f2, f3⟩, z⟩ := H
  have e : ∀ i, (cG c v k x).2.2.2 i 1 = c.2.2.2 i 1 := fun i => if_neg (fun q => hk q.2.symm)
  refine ⟨a, b, t, u, fun i hi => ?_, ⟨l1, l2, fun i hi => ?_, fun i hi => ?_⟩, ⟨f1, f2, fun i h1 h2 => ?_⟩, z⟩
  · show LG (up2 c.2.2.2 v k x i)
    by_cases q : i = v
    · subst q; rw [up2_r]; exact hl
    · rw [up2_n q]; exact g i hi
  · rcases l3 i hi with h | ⟨w, h1, h2, h3⟩
    · exact Or.inl h
    · exact Or.inr ⟨w, h1, h2, (e w).trans h3⟩
  · rw [e]; exact l4 i hi
  · have q : i ≠ v := by
      intro q; subst q
      exact absurd hv (Nat.not_lt.mpr h1)
    show ∀ k_1, k_1 < 2 → up2 c.2.2.2 v k x i k_1 = htr0 k_1
    rw [up2_n q]; exact f3 i h1 h2
theorem upd_e {f g : Nat → Int32} {k i : Nat} {x : Int32} (h : i ≠ k → f i = g i) : upd f k x i = upd g k x i := by
  by_cases e : i = k
  · subst e; rw [upd_s, upd_s]
  · rw [upd_o e, upd_o e]; exact h e
theorem r_S {c d : xCo} {k : Nat} {x : Int32} (H : R9 c d) (h : k ≠ 1 ∧ k ≠ 2 ∧ k ≠ 3) : R9 (cS c k x) (cS d k x) := by
  obtain ⟨e1, e2, e3⟩ := n_cS (c := c) (x := x) h
  obtain ⟨a, b, p, q⟩ := H
  unfold R9
  rw [e1, e2, e3]
  exact ⟨fun i hi => upd_e (fun _ => a i hi), b, p, q⟩
theorem r_T {c d : xCo} {j k : Nat} {x : Int32} (H : R9 c d) (hk : k ≠ 3) : R9 (cT c j k x) (cT d j k x) := by
  obtain ⟨a, b, p, q⟩ := H
  refine ⟨a, fun i hi => ?_, p, q⟩
  show (∀ k_1, k_1 < 7 → k_1 ≠ 4 → up2 c.2.1 j k x i k_1 = up2 d.2.1 j k x i k_1) ∧ (up2 c.2.1 j k x i 3 ≠ 0 → up2 c.2.1 j k x i 4 = up2 d.2.1 j k x i 4)
  obtain ⟨b1, b2⟩ := b i hi
  by_cases e : i = j
  · subst e
    rw [up2_r, up2_r]
    refine ⟨fun k2 h1 h2 => upd_e (fun _ => b1 k2 h1 h2), fun h => upd_e (fun _ => b2 ?_)⟩
    rwa [upd_o (fun z => hk z.symm)] at h
  · rw [up2_n e, up2_n e]; exact ⟨b1, b2⟩
theorem r_T3 {c d : xCo} {j : Nat} {x : Int32} (H : R9 c d) (hw : x ≠ 0 → c.2.1 j 4 = d.2.1 j 4) : R9 (cT c j 3 x) (cT d j 3 x) := by
  obtain ⟨a, b, p, q⟩ := H
  refine ⟨a, fun i hi => ?_, p, q⟩
  show (∀ k_1, k_1 < 7 → k_1 ≠ 4 → up2 c.2.1 j 3 x i k_1 = up2 d.2.1 j 3 x i k_1) ∧ (up2 c.2.1 j 3 x i 3 ≠ 0 → up2 c.2.1 j 3 x i 4 = up2 d.2.1 j 3 x i 4)
  obtain ⟨b1, b2⟩ := b i hi
  by_cases e : i = j
  · subst e
    rw [up2_r, up2_r]
    refine ⟨fun k2 h1 h2 => upd_e (fun _ => b1 k2 h1 h2), fun h => upd_e (fun _ => hw ?_)⟩
    rwa [upd_s] at h
  · rw [up2_n e, up2_n e]; exact ⟨b1, b2⟩
theorem r_Td {c d : xCo} {j k : Nat} {x : Int32} (H : R9 c d) (hk : k ≠ 4) (hx : c.2.1 j k = x) : R9 c (cT d j k x) := by
  obtain ⟨a, b, p, q⟩ := H
  refine ⟨a, fun i hi => ?_, p, q⟩
  show (∀ k_1, k_1 < 7 → k_1 ≠ 4 → c.2.1 i k_1 = up2 d.2.1 j k x i k_1) ∧ (c.2.1 i 3 ≠ 0 → c.2.1 i 4 = up2 d.2.1 j k x i 4)
  obtain ⟨b1, b2⟩ := b i hi
  by_cases e : i = j
  · subst e
    rw [up2_r]
    refine ⟨fun k2 h1 h2 => ?_, fun h => ?_⟩
    · by_cases z : k2 = k
      · subst z; rw [upd_s]; exact hx
      · rw [upd_o z]; exact b1 k2 h1 h2
    · rw [upd_o (fun z => hk z.symm)]; exact b2 h
  · rw [up2_n e]; exact ⟨b1, b2⟩
theorem r_U {c d : xCo} {v k : Nat} {x : Int32} (H : R9 c d) : R9 (cU c v k x) (cU d v k x) := by
  obtain ⟨a, b, p, q⟩ := H
  refine ⟨a, b, fun i hi => ?_, q⟩
  show ∀ k_1, k_1 < 11 → up2 c.2.2.1 v k x i k_1 = up2 d.2.2.1 v k x i k_1
  by_cases e : i = v
  · subst e
    rw [up2_r, up2_r]
    exact fun k2 h1 => upd_e (fun _ => p i hi k2 h1)
  · rw [up2_n e, up2_n e]; exact p i hi
theorem r_G {c d : xCo} {v k : Nat} {x : Int32} (H : R9 c d) : R9 (cG c v k x) (cG d v k x) := by
  obtain ⟨a, b, p, q⟩ := H
  refine ⟨a, b, p, fun i hi => ?_⟩
  show ∀ k_1, k_1 < 2 → up2 c.2.2.2 v k x i k_1 = up2 d.2.2.2 v k x i k_1
  by_cases e : i = v
  · subst e
    rw [up2_r, up2_r]
    exact fun k2 h1 => upd_e (fun _ => q i hi k2 h1)
  · rw [up2_n e, up2_n e]; exact q i hi
theorem okT_e {c d : xCo} {t : Int32} (H : R9 c d) : okT d t ↔ okT c t := by
  unfold okT
  rw [H.1 1 (by decide)]
theorem okU_e {c d : xCo} {t : Int32} (H : R9 c d) : okU d t ↔ okU c t := by
  unfold okU
  rw [H.1 2 (by decide)]
theorem okG_e {c d : xCo} {t : Int32} (H : R9 c d) : okG d t ↔ okG c t := by
  unfold okG
  rw [H.1 3 (by decide)]
theorem okT_n {K : Nat} {c : xCo} {t : Int32} (J : J9 K c) (h : okT c t) : ∃ j, j < n1 c ∧ j < 8 ∧ t = nI j := by
  obtain ⟨j, hj, rfl⟩ := h.ix
  have e := J.1.1
  have h2 := h.2.1
  rw [e.1] at h2
  refine ⟨j, ?_, hj, rfl⟩
  have : ¬ n1 c ≤ j := fun q => h2 ((nI_leI (by omega) (by omega)).mpr q)
  omega
theorem okU_n {K : Nat} {c : xCo} {t : Int32} (J : J9 K c) (h : okU c t) : ∃ j, j < n2 c ∧ j < 5 ∧ t = nI j := by
  obtain ⟨j, hj, rfl⟩ := h.ix
  have e := J.1.2.1
  have h2 := h.2.1
  rw [e.1] at h2
  refine ⟨j, ?_, hj, rfl⟩
  have : ¬ n2 c ≤ j := fun q => h2 ((nI_leI (by omega) (by omega)).mpr q)
  omega
theorem okG_n {K : Nat} {c : xCo} {t : Int32} (J : J9 K c) (h : okG c t) : ∃ j, j < n3 c ∧ j < 4 ∧ t = nI j := by
  obtain ⟨j, hj, rfl⟩ := h.ix
  have e := J.1.2.2
  have h2 := h.2.1
  rw [e.1] at h2
  refine ⟨j, ?_, hj, rfl⟩
  have : ¬ n3 c ≤ j := fun q => h2 ((nI_leI (by omega) (by omega)).mpr q)
  omega
theorem r_R {c d : xCo} {a b a2 b2 : Int32} (H : R9 c d) (h : True) : R9 (cR c a b) (cR d a2 b2) := by
  obtain ⟨p, q, r, s⟩ := H
  have e : ∀ k, k < 10 → (cR c a b).1 k = c.1 k := fun k hk => (upd_o (by omega)).trans (upd_o (by omega))
  have e2 : ∀ k, k < 10 → (cR d a2 b2).1 k = d.1 k := fun k hk => (upd_o (by omega)).trans (upd_o (by omega))
  have x1 : n1 (cR c a b) = n1 c := congrArg Int32.toNatClampNeg (e 1 (by decide))
  have x2 : n2 (cR c a b) = n2 c := congrArg Int32.toNatClampNeg (e 2 (by decide))
  have x3 : n3 (cR c a b) = n3 c := congrArg Int32.toNatClampNeg (e 3 (by decide))
  unfold R9
  rw [x1, x2, x3]
  exact ⟨fun k hk => (e k hk).trans ((p k hk).trans (e2 k hk).symm), q, r, s⟩
theorem JS.ext {K : Nat} {f g : Nat → Int32} (H : JS K f) (h : ∀ k, k < 10 → g k = f k) : JS K g := by
  obtain ⟨⟨a, a1, a2⟩, ⟨b, b1, b2⟩, ⟨c, c1, c2⟩, ⟨d, d1, d2⟩, ⟨e, e1, e2⟩⟩ := H
  exact ⟨⟨a, a1, (h 5 (by decide)).trans a2⟩, ⟨b, b1, (h 8 (by decide)).trans b2⟩, ⟨c, c1, (h 9 (by decide)).trans c2⟩, ⟨d, d1, (h 6 (by decide)).trans d2⟩, ⟨e, e1, (h 7 (by decide)).trans e2⟩⟩
theorem j_R {K : Nat} {c : xCo} {a b : Int32} (H : J9 K c) : J9 K (cR c a b) := by
  unfold cR
  refine j_S (j_S H (by decide) (Nat.le_refl _) (H.2.1.ext fun k hk => upd_o (by omega))) (by decide) (Nat.le_refl _) (JS.ext (H.2.1.ext (g := upd c.1 10 a) fun k hk => upd_o (by omega)) fun k hk => upd_o (by omega))
/-- what comes of an outcome, on both sides -/
def OK9 (K : Nat) (c d : xCo) (r : Int32 × xCo) (p : mOc) : Prop := (p.1 = 0 ∧ r.1 = p.2.1 ∧ (∃ v, v < 2147483000 ∧ r.1 = nI v) ∧ R9 r.2 p.2.2 ∧ J9 (K + 240) r.2) ∨ (p.1 = -1 ∧ r.1 = -1 ∧ ∃ a b, (1 ≤ a ∧ a ≤ 14) ∧ r.2 = cR c a b ∧ p.2.2 = cR d a b) ∨ (p.1 = -2 ∧ r.1 = -2 ∧ r.2 = c ∧ p.2.2 = d) ∨ (p.1 = -3 ∧ r.1 = -3 ∧ r.2 = c ∧ p.2.2 = d)
theorem OK9.m1 {K : Nat} {c d : xCo} {a b x : Int32} (h : 1 ≤ a ∧ a ≤ 14) : OK9 K c d (-1, cR c a b) (-1, x, cR d a b) := Or.inr (Or.inl ⟨rfl, rfl, a, b, h, rfl, rfl⟩)
theorem OK9.m2 {K : Nat} {c d : xCo} {x : Int32} : OK9 K c d (-2, c) (-2, x, d) := Or.inr (Or.inr (Or.inl ⟨rfl, rfl, rfl, rfl⟩))
theorem OK9.m3 {K : Nat} {c d : xCo} {x : Int32} : OK9 K c d (-3, c) (-3, x, d) := Or.inr (Or.inr (Or.inr ⟨rfl, rfl, rfl, rfl⟩))
theorem LT.k2 {K : Nat} {f : Nat → Int32} {b : Nat} (H : LT K f) (h : b < 256) : LT K (upd f 2 (nI b)) := by
  obtain ⟨x0, x2, x3, x4, x5, x6, x1⟩ := H
  exact ⟨by rw [upd_o (by decide)]; exact x0, ⟨b, h, upd_s⟩, by rw [upd_o (by decide)]; exact x3, by rw [upd_o (by decide)]; exact x4, by rw [upd_o (by decide)]; exact x5, by rw [upd_o (by decide)]; exact x6, by rw [upd_o (by decide), upd_o (by decide), upd_o (by decide)]; exact x1⟩
theorem LT.k3 {K : Nat} {f : Nat → Int32} {l : Nat} (H : LT K f) (h : l ≤ 300) (h1 : f 1 = -1 → nI l = 0) : LT K (upd f 3 (nI l)) := by
  obtain ⟨x0, x2, x3, x4, x5, x6, x1⟩ := H
  exact ⟨by rw [upd_o (by decide)]; exact x0, by rw [upd_o (by decide)]; exact x2, ⟨l, h, upd_s⟩, by rw [upd_o (by decide)]; exact x4, by rw [upd_o (by decide)]; exact x5, by rw [upd_o (by decide)]; exact x6, by rw [upd_o (by decide), upd_s, upd_o (by decide)]; exact fun q => ⟨h1 q, (x1 q).2⟩⟩
theorem LT.k4 {K : Nat} {f : Nat → Int32} {v : Nat} (H : LT K f) (h : 10 ≤ v) (h2 : v ≤ 60) : LT K (upd f 4 (nI v)) := by
  obtain ⟨x0, x2, x3, x4, x5, x6, x1⟩ := H
  exact ⟨by rw [upd_o (by decide)]; exact x0, by rw [upd_o (by decide)]; exact x2, by rw [upd_o (by decide)]; exact x3, ⟨v, h, h2, upd_s⟩, by rw [upd_o (by decide)]; exact x5, by rw [upd_o (by decide)]; exact x6, by rw [upd_o (by decide), upd_o (by decide), upd_o (by decide)]; exact x1⟩
theorem LT.k5 {K : Nat} {f : Nat → Int32} {x : Int32} (H : LT K f) (h : x = 0 ∨ x = 1) (h1 : f 1 = -1 → x = 0) : LT K (upd f 5 x) := by
  obtain ⟨x0, x2, x3, x4, x5, x6, x1⟩ := H
  exact ⟨by rw [upd_o (by decide)]; exact x0, by rw [upd_o (by decide)]; exact x2, by rw [upd_o (by decide)]; exact x3, by rw [upd_o (by decide)]; exact x4, by rw [upd_s]; exact h, by rw [upd_o (by decide)]; exact x6, by rw [upd_o (by decide), upd_o (by decide), upd_s]; exact fun q => ⟨(x1 q).1, h1 q⟩⟩
theorem LT.k6 {K : Nat} {f : Nat → Int32} {k : Nat} (H : LT K f) (h : k ≤ K) : LT K (upd f 6 (nI k)) := by
  obtain ⟨x0, x2, x3, x4, x5, x6, x1⟩ := H
  exact ⟨by rw [upd_o (by decide)]; exact x0, by rw [upd_o (by decide)]; exact x2, by rw [upd_o (by decide)]; exact x3, by rw [upd_o (by decide)]; exact x4, by rw [upd_o (by decide)]; exact x5, ⟨k, h, upd_s⟩, by rw [upd_o (by decide), upd_o (by decide), upd_o (by decide)]; exact x1⟩
/-- torn seams: the two ways of counting, and the bits -/
theorem bc_tm : ∀ b, b < 256 → bcS (nI b) = tmS (nI b) 8 ∧ ∃ v, v < 9 ∧ bcS (nI b) = nI v := by
  have h : ∀ b, b < 256 → bcS (nI b) = tmS (nI b) 8 ∧ bcS (nI b) = nI (bcS (nI b)).toNatClampNeg ∧ (bcS (nI b)).toNatClampNeg < 9 := by decide +kernel
  intro b hb
  obtain ⟨h1, h2, h3⟩ := h b hb
  exact ⟨h1, _, h3, h2⟩
theorem bit_or : ∀ b, b < 256 → ∀ s, s < 8 → ∃ e, e < 256 ∧ nI b ||| (1 : Int32) <<< (nI s &&& 31) = nI e := by
  have h : ∀ b, b < 256 → ∀ s, s < 8 → (nI b ||| (1 : Int32) <<< (nI s &&& 31)).toNatClampNeg < 256 ∧ nI b ||| (1 : Int32) <<< (nI s &&& 31) = nI (nI b ||| (1 : Int32) <<< (nI s &&& 31)).toNatClampNeg := by decide +kernel
  exact fun b hb s hs => ⟨_, (h b hb s hs).1, (h b hb s hs).2⟩
theorem bit_and : ∀ b, b < 256 → ∀ s, s < 8 → ∃ e, e < 256 ∧ nI b &&& ((1 : Int32) <<< (nI s &&& 31) ^^^ -1) = nI e := by
  have h : ∀ b, b < 256 → ∀ s, s < 8 → (nI b &&& ((1 : Int32) <<< (nI s &&& 31) ^^^ -1)).toNatClampNeg < 256 ∧ nI b &&& ((1 : Int32) <<< (nI s &&& 31) ^^^ -1) = nI (nI b &&& ((1 : Int32) <<< (nI s &&& 31) ^^^ -1)).toNatClampNeg := by decide +kernel
  exact fun b hb s hs => ⟨_, (h b hb s hs).1, (h b hb s hs).2⟩
theorem s_ix {s : Int32} (h : ¬ (s < 0 ∨ 8 ≤ s)) : ∃ k, k < 8 ∧ s = nI k := ixOf (n := 8) (by decide) (fun z => h (Or.inl z)) (fun z => h (Or.inr z))
theorem sim_tear {K : Nat} {c d : xCo} {t s : Int32} (R : R9 c d) (J : J9 K c) : OK9 K c d (tearS c t s) (mTear d t s) := by
  unfold tearS mTear
  by_cases h1 : okT c t
  · rw [if_pos h1, if_pos ((okT_e R).mpr h1)]
    by_cases h2 : s < 0 ∨ 8 ≤ s
    · rw [if_pos h2, if_pos h2]; exact OK9.m2
    · rw [if_neg h2, if_neg h2]
      obtain ⟨j, hj, hj8, rfl⟩ := okT_n J h1
      obtain ⟨k, hk, rfl⟩ := s_ix h2
      rw [nI_cl (by omega), ← (R.2.1 j hj).1 2 (by decide) (by decide)]
      obtain ⟨b, hb, eb⟩ := (J.2.2.1 j hj8).2.1
      obtain ⟨e, he, ee⟩ := bit_or b hb k hk
      rw [eb, ee]
      obtain ⟨q1, v, hv, q2⟩ := bc_tm e he
      exact Or.inl ⟨rfl, q1, ⟨v, by omega, q2⟩, r_T R (by decide), (j_T J hj (by decide) ((J.2.2.1 j hj8).k2 he)).mono (by omega)⟩
  · rw [if_neg h1, if_neg (fun q => h1 ((okT_e R).mp q))]; exact OK9.m2
theorem JS.k5 {K K2 a : Nat} {f : Nat → Int32} (H : JS K f) (hk : K ≤ K2) (h : a ≤ K2) : JS K2 (upd f 5 (nI a)) := by
  obtain ⟨x5, x8, x9, x6, x7⟩ := H.mono hk
  exact ⟨⟨a, h, upd_s⟩, by rw [upd_o (by decide)]; exact x8, by rw [upd_o (by decide)]; exact x9, by rw [upd_o (by decide)]; exact x6, by rw [upd_o (by decide)]; exact x7⟩
theorem JS.k8 {K K2 a : Nat} {f : Nat → Int32} (H : JS K f) (hk : K ≤ K2) (h : a ≤ K2) : JS K2 (upd f 8 (nI a)) := by
  obtain ⟨x5, x8, x9, x6, x7⟩ := H.mono hk
  exact ⟨by rw [upd_o (by decide)]; exact x5, ⟨a, h, upd_s⟩, by rw [upd_o (by decide)]; exact x9, by rw [upd_o (by decide)]; exact x6, by rw [upd_o (by decide)]; exact x7⟩
theorem JS.k9 {K K2 a : Nat} {f : Nat → Int32} (H : JS K f) (hk : K ≤ K2) (h : a ≤ K2) : JS K2 (upd f 9 (nI a)) := by
  obtain ⟨x5, x8, x9, x6, x7⟩ := H.mono hk
  exact ⟨by rw [upd_o (by decide)]; exact x5, by rw [upd_o (by decide)]; exact x8, ⟨a, h, upd_s⟩, by rw [upd_o (by decide)]; exact x6, by rw [upd_o (by decide)]; exact x7⟩
theorem JS.k6 {K K2 a : Nat} {f : Nat → Int32} (H : JS K f) (hk : K ≤ K2) (h : a ≤ 99) : JS K2 (upd f 6 (nI a)) := by
  obtain ⟨x5, x8, x9, x6, x7⟩ := H.mono hk
  exact ⟨by rw [upd_o (by decide)]; exact x5, by rw [upd_o (by decide)]; exact x8, by rw [upd_o (by decide)]; exact x9, ⟨a, h, upd_s⟩, by rw [upd_o (by decide)]; exact x7⟩
theorem JS.k7 {K K2 a : Nat} {f : Nat → Int32} (H : JS K f) (hk : K ≤ K2) (h : a ≤ 10 + 4 * K2) : JS K2 (upd f 7 (nI a)) := by
  obtain ⟨x5, x8, x9, x6, x7⟩ := H.mono hk
  exact ⟨by rw [upd_o (by decide)]; exact x5, by rw [upd_o (by decide)]; exact x8, by rw [upd_o (by decide)]; exact x9, by rw [upd_o (by decide)]; exact x6, ⟨a, h, upd_s⟩⟩
theorem JS.ko {K K2 k : Nat} {f : Nat → Int32} {x : Int32} (H : JS K f) (hk : K ≤ K2) (h : k < 5 ∨ 9 < k) : JS K2 (upd f k x) := by
  obtain ⟨x5, x8, x9, x6, x7⟩ := H.mono hk
  exact ⟨by rw [upd_o (by omega)]; exact x5, by rw [upd_o (by omega)]; exact x8, by rw [upd_o (by omega)]; exact x9, by rw [upd_o (by omega)]; exact x6, by rw [upd_o (by omega)]; exact x7⟩
theorem sim_mend {K : Nat} {c d : xCo} {t s : Int32} (R : R9 c d) (J : J9 K c) (hK : K < 16000000) : OK9 K c d (mendS c t s) (mMend d t s) := by
  unfold mendS mMend
  by_cases h1 : okT c t
  · rw [if_pos h1, if_pos ((okT_e R).mpr h1)]
    by_cases h2 : s < 0 ∨ 8 ≤ s
    · rw [if_pos h2, if_pos h2]; exact OK9.m2
    · rw [if_neg h2, if_neg h2]
      obtain ⟨j, hj, hj8, rfl⟩ := okT_n J h1
      obtain ⟨k, hk, rfl⟩ := s_ix h2
      rw [nI_cl (by omega), ← (R.2.1 j hj).1 2 (by decide) (by decide), ← (R.2.1 j hj).1 3 (by decide) (by decide), ← R.1 7 (by decide)]
      by_cases h3 : c.2.1 j 2 >>> (nI k &&& 31) &&& 1 = 0
      · rw [if_pos h3, if_pos h3]; exact OK9.m1 (by decide)
      · rw [if_neg h3, if_neg h3]
        by_cases h4 : c.2.1 j 3 ≤ 0
        · rw [if_pos h4, if_pos h4]
          by_cases h5 : 2 ≤ c.1 7
          · rw [if_pos h5, if_pos h5]
            obtain ⟨b, hb, eb⟩ := (J.2.2.1 j hj8).2.1
            obtain ⟨e, he, ee⟩ := bit_and b hb k hk
            obtain ⟨a, ha, ea⟩ := J.2.1.2.2.2.2
            rw [ea] at h5
            have h6 : 2 ≤ a := (nI_leI (a := 2) (by decide) (by omega)).mp h5
            rw [eb, ee, ea, show nI a - 2 = nI (a - 2) from pk_sub h6]
            obtain ⟨q1, v, hv, q2⟩ := bc_tm e he
            exact Or.inl ⟨rfl, q1, ⟨v, by omega, q2⟩, r_T (r_S R (by decide)) (by decide), j_T (j_S J (by decide) (by omega) (J.2.1.k7 (by omega) (by omega))) hj (by decide) (((J.2.2.1 j hj8).mono (by omega)).k2 he)⟩
          · rw [if_neg h5, if_neg h5]; exact OK9.m1 (by decide)
        · rw [if_neg h4, if_neg h4]; exact OK9.m1 (by decide)
  · rw [if_neg h1, if_neg (fun q => h1 ((okT_e R).mp q))]; exact OK9.m2
theorem mn_n {a b : Nat} (ha : a < 2147483648) (hb : b < 2147483648) : mn (nI a) (nI b) = nI (if b < a then b else a) := by
  unfold mn
  by_cases h : b < a
  · rw [if_pos h, if_pos (nI_lt h (by omega))]
  · rw [if_neg h, if_neg (nI_nlt (by omega) (by omega))]
theorem rng {x : Int32} {N : Nat} (hN : N < 2147483648) (h0 : ¬ x < 1) (h1 : x ≤ nI N) : ∃ y, 1 ≤ y ∧ y ≤ N ∧ x = nI y := by
  have h2 : ¬ x < 0 := fun q => h0 (by
    rw [Int32.lt_iff_toInt_lt] at q ⊢
    have : (1 : Int32).toInt = 1 := by decide
    have : (0 : Int32).toInt = 0 := by decide
    omega)
  obtain ⟨y, hy, rfl⟩ := nI_of h2
  refine ⟨y, ?_, (nI_leI (by omega) (by omega)).mp h1, rfl⟩
  have : ¬ y < 1 := fun q => h0 (nI_lt (b := 1) q (by decide))
  omega
theorem sim_gas {K : Nat} {c d : xCo} {t x : Int32} (R : R9 c d) (J : J9 K c) (hK : K < 16000000) : OK9 K c d (gasS c t x) (mGas d t x) := by
  unfold gasS mGas
  by_cases h1 : okG c t
  · rw [if_pos h1, if_pos ((okG_e R).mpr h1)]
    by_cases h2 : x < 1
    · rw [if_pos h2, if_pos (Or.inl h2)]; exact OK9.m3
    · rw [if_neg h2]
      by_cases h3 : x ≤ 12
      · have hn9 : ¬ (x < 1 ∨ 12 < x) := fun q => q.elim h2 (fun z => Int32.not_le.mpr z h3)
        rw [if_pos h3, if_neg hn9]
        obtain ⟨v, hv, hv4, rfl⟩ := okG_n J h1
        obtain ⟨y, hy1, hy2, rfl⟩ := rng (N := 12) (by decide) h2 h3
        rw [nI_cl (by omega), ← R.2.2.2 v hv 0 (by decide), ← R.1 7 (by decide)]
        by_cases h5 : nI y ≤ c.1 7
        · rw [if_pos h5, if_pos h5]
          obtain ⟨g, hg, eg⟩ := J.2.2.2.2.1 v hv4
          obtain ⟨a, ha, ea⟩ := J.2.1.2.2.2.2
          rw [ea] at h5
          have h6 : y ≤ a := (nI_leI (by omega) (by omega)).mp h5
          rw [eg, ea, pk_sub h6, show (5 : Int32) * nI y = nI (5 * y) from pk_mul 5 y, nI_a2, show mn 60 (nI (g + 5 * y)) = _ from mn_n (a := 60) (by decide) (by omega)]
          refine Or.inl ⟨rfl, rfl, ⟨_, by split <;> omega, rfl⟩, r_G (r_S R (by decide)), j_G (j_S J (by decide) (by omega) (J.2.1.k7 (by omega) (by omega))) hv (by decide) ⟨_, ?_, upd_s⟩⟩
          split <;> omega
        · rw [if_neg h5, if_neg h5]; exact OK9.m1 (by decide)
      · have hn9 : x < 1 ∨ 12 < x := Or.inr (Int32.not_le.mp h3)
        rw [if_neg h3, if_pos hn9]; exact OK9.m3
  · rw [if_neg h1, if_neg (fun q => h1 ((okG_e R).mp q))]; exact OK9.m2
theorem sim_wash {K : Nat} {c d : xCo} {x : Int32} (R : R9 c d) (J : J9 K c) (hK : K < 16000000) : OK9 K c d (washS c x) (mWash d x) := by
  unfold washS mWash
  by_cases h2 : x < 1
  · rw [if_pos h2, if_pos (Or.inl h2)]; exact OK9.m3
  · rw [if_neg h2]
    by_cases h3 : x ≤ 20
    · have hn9 : ¬ (x < 1 ∨ 20 < x) := fun q => q.elim h2 (fun z => Int32.not_le.mpr z h3)
      rw [if_pos h3, if_neg hn9]
      obtain ⟨y, hy1, hy2, rfl⟩ := rng (N := 20) (by decide) h2 h3
      rw [← R.1 5 (by decide), ← R.1 7 (by decide), ← R.1 4 (by decide)]
      obtain ⟨u, hu, eu⟩ := J.2.1.1
      obtain ⟨a, ha, ea⟩ := J.2.1.2.2.2.2
      rw [eu, ea, mn_n (by omega) (by omega)]
      have hm : (if u < y then u else y) ≤ 20 ∧ (if u < y then u else y) ≤ u := by split <;> omega
      by_cases h4 : nI u = 0
      · have hu0 : u = 0 := Classical.byContradiction fun q => nI_ne0 (by omega) (by omega) h4
        subst hu0
        rw [if_pos h4, if_pos (by rw [if_pos (by omega)]; rfl)]; exact OK9.m1 (by decide)
      · have hu0 : u ≠ 0 := fun q => h4 (by rw [q]; rfl)
        have hmp : 0 < (if u < y then u else y) := by split <;> omega
        generalize (if u < y then u else y) = m at hm hmp ⊢
        rw [if_neg h4, if_neg (nI_ne0 hmp (by omega))]
        by_cases h5 : nI m ≤ nI a
        · rw [if_pos h5, if_pos h5]
          have h6 : m ≤ a := (nI_leI (by omega) (by omega)).mp h5
          rw [pk_sub h6, pk_sub hm.2]
          exact Or.inl ⟨rfl, rfl, ⟨m, by omega, rfl⟩, r_S (r_S (r_S R (by decide)) (by decide)) (by decide), j_S (j_S (j_S (K2 := K + 240) J (by decide) (by omega) (J.2.1.k7 (by omega) (by omega))) (by decide) (Nat.le_refl _) ((J.2.1.k7 (by omega) (by omega)).k5 (Nat.le_refl _) (by omega))) (by decide) (Nat.le_refl _) (((J.2.1.k7 (by omega) (by omega)).k5 (Nat.le_refl _) (by omega)).ko (Nat.le_refl _) (by decide))⟩
        · rw [if_neg h5, if_neg h5]; exact OK9.m1 (by decide)
    · have hn9 : x < 1 ∨ 20 < x := Or.inr (Int32.not_le.mp h3)
      rw [if_neg h3, if_pos hn9]; exact OK9.m3
theorem sim_soap {K : Nat} {c d : xCo} {x : Int32} (R : R9 c d) (J : J9 K c) (hK : K < 16000000) : OK9 K c d (soapS c x) (mSoap d x) := by
  unfold soapS mSoap
  by_cases h2 : x < 1
  · rw [if_pos h2, if_pos (Or.inl h2)]; exact OK9.m3
  · rw [if_neg h2]
    by_cases h3 : x ≤ 20
    · have hn9 : ¬ (x < 1 ∨ 20 < x) := fun q => q.elim h2 (fun z => Int32.not_le.mpr z h3)
      rw [if_pos h3, if_neg hn9]
      obtain ⟨y, hy1, hy2, rfl⟩ := rng (N := 20) (by decide) h2 h3
      rw [← R.1 6 (by decide), ← R.1 7 (by decide)]
      obtain ⟨u, hu, eu⟩ := J.2.1.2.2.2.1
      obtain ⟨a, ha, ea⟩ := J.2.1.2.2.2.2
      rw [eu, ea, show (99 : Int32) - nI u = nI (99 - u) from pk_sub (a := 99) hu, mn_n (by omega) (by omega)]
      have hm : (if 99 - u < y then 99 - u else y) ≤ 99 - u := by split <;> omega
      generalize (if 99 - u < y then 99 - u else y) = m at hm ⊢
      by_cases h5 : nI m ≤ nI a
      · rw [if_pos h5, if_pos h5]
        have h6 : m ≤ a := (nI_leI (by omega) (by omega)).mp h5
        rw [pk_sub h6, nI_a2]
        exact Or.inl ⟨rfl, rfl, ⟨u + m, by omega, rfl⟩, r_S (r_S R (by decide)) (by decide), j_S (j_S (K2 := K + 240) J (by decide) (by omega) (J.2.1.k7 (by omega) (by omega))) (by decide) (Nat.le_refl _) ((J.2.1.k7 (by omega) (by omega)).k6 (Nat.le_refl _) (by omega))⟩
      · rw [if_neg h5, if_neg h5]; exact OK9.m1 (by decide)
    · have hn9 : x < 1 ∨ 20 < x := Or.inr (Int32.not_le.mp h3)
      rw [if_neg h3, if_pos hn9]; exact OK9.m3
theorem LT.k1 {K : Nat} {f : Nat → Int32} {x : Int32} (H : LT K f) (h : x = -1 → f 3 = 0 ∧ f 5 = 0) : LT K (upd f 1 x) := by
  obtain ⟨x0, x2, x3, x4, x5, x6, x1⟩ := H
  exact ⟨by rw [upd_o (by decide)]; exact x0, by rw [upd_o (by decide)]; exact x2, by rw [upd_o (by decide)]; exact x3, by rw [upd_o (by decide)]; exact x4, by rw [upd_o (by decide)]; exact x5, by rw [upd_o (by decide)]; exact x6, by rw [upd_s, upd_o (by decide), upd_o (by decide)]; exact h⟩
theorem LU.ko {f : Nat → Int32} {k : Nat} {x : Int32} (H : LU f) (h : k ≠ 0 ∧ k ≠ 4) : LU (upd f k x) := by
  obtain ⟨a, b⟩ := H
  exact ⟨by rw [upd_o (fun e => h.1 e.symm)]; exact a, by rw [upd_o (fun e => h.2 e.symm)]; exact b⟩
theorem LU.k4 {f : Nat → Int32} {m : Nat} (H : LU f) (h : m ≤ 6) : LU (upd f 4 (nI m)) := by
  obtain ⟨a, b⟩ := H
  exact ⟨by rw [upd_o (by decide)]; exact a, ⟨m, h, upd_s⟩⟩
theorem LG.ko {f : Nat → Int32} {k : Nat} {x : Int32} (H : LG f) (h : k ≠ 0) : LG (upd f k x) := by
  obtain ⟨a, b, e⟩ := H
  exact ⟨a, b, (upd_o (fun z => h z.symm)).trans e⟩
theorem nI_inj {a b : Nat} (ha : a < 2147483648) (hb : b < 2147483648) (h : nI a = nI b) : a = b := Classical.byContradiction fun q => nI_ne q (by omega) (by omega) h
theorem up2_k {f : Nat → Nat → Int32} {i j k k2 : Nat} {x : Int32} (h : k2 ≠ k) : up2 f j k x i k2 = f i k2 := if_neg (fun q => h q.2)
/-- a tub and a tent told of each other -/
theorem j_L1 {K : Nat} {c : xCo} {j v : Nat} {x y : Int32} (J : J9 K c) (hj : j < n1 c) (hv : v < n2 c) (hl : LT K (upd (c.2.1 j) 1 x)) (hL : JL (cU (cT c j 1 x) v 1 y)) : J9 K (cU (cT c j 1 x) v 1 y) := by
  obtain ⟨a, b, t, u, g, -, ⟨f1, f2, f3⟩, z⟩ := J
  refine ⟨a, b, fun i hi => ?_, fun i hi => ?_, g, hL, ⟨fun i h1 h2 => ?_, fun i h1 h2 => ?_, f3⟩, fun i hi => ?_⟩
  · show LT K (up2 c.2.1 j 1 x i)
    by_cases q : i = j
    · subst q; rw [up2_r]; exact hl
    · rw [up2_n q]; exact t i hi
  · show LU (up2 c.2.2.1 v 1 y i)
    by_cases q : i = v
    · subst q; rw [up2_r]; exact (u i hi).ko (by decide)
    · rw [up2_n q]; exact u i hi
  · have q : i ≠ j := by
      intro q; subst q
      exact absurd hj (Nat.not_lt.mpr h1)
    show ∀ k_1, k_1 < 7 → up2 c.2.1 j 1 x i k_1 = tub0 k_1
    rw [up2_n q]; exact f1 i h1 h2
  · have q : i ≠ v := by
      intro q; subst q
      exact absurd hv (Nat.not_lt.mpr h1)
    show ∀ k_1, k_1 < 11 → up2 c.2.2.1 v 1 y i k_1 = tnt0 k_1
    rw [up2_n q]; exact f2 i h1 h2
  · rw [show (cU (cT c j 1 x) v 1 y).2.1 i 0 = c.2.1 i 0 from up2_k (by decide)]
    exact z i hi
/-- a heater and a tent told of each other -/
theorem j_L2 {K : Nat} {c : xCo} {g v : Nat} {x y : Int32} (J : J9 K c) (hg : g < n3 c) (hv : v < n2 c) (hL : JL (cU (cG c g 1 x) v 2 y)) : J9 K (cU (cG c g 1 x) v 2 y) := by
  obtain ⟨a, b, t, u, gg, -, ⟨f1, f2, f3⟩, z⟩ := J
  refine ⟨a, b, t, fun i hi => ?_, fun i hi => ?_, hL, ⟨f1, fun i h1 h2 => ?_, fun i h1 h2 => ?_⟩, z⟩
  · show LU (up2 c.2.2.1 v 2 y i)
    by_cases q : i = v
    · subst q; rw [up2_r]; exact (u i hi).ko (by decide)
    · rw [up2_n q]; exact u i hi
  · show LG (up2 c.2.2.2 g 1 x i)
    by_cases q : i = g
    · subst q; rw [up2_r]; exact (gg i hi).ko (by decide)
    · rw [up2_n q]; exact gg i hi
  · have q : i ≠ v := by
      intro q; subst q
      exact absurd hv (Nat.not_lt.mpr h1)
    show ∀ k_1, k_1 < 11 → up2 c.2.2.1 v 2 y i k_1 = tnt0 k_1
    rw [up2_n q]; exact f2 i h1 h2
  · have q : i ≠ g := by
      intro q; subst q
      exact absurd hg (Nat.not_lt.mpr h1)
    show ∀ k_1, k_1 < 2 → up2 c.2.2.2 g 1 x i k_1 = htr0 k_1
    rw [up2_n q]; exact f3 i h1 h2
theorem neg_m1 {K : Nat} {c : xCo} {j : Nat} (J : J9 K c) (hj : j < 8) (h : c.2.1 j 1 < 0) : c.2.1 j 1 = -1 := by
  have a5 := J.1.2.1.2
  rcases J.2.2.2.2.2.1.1 j hj with e | ⟨u, hu, e, -⟩
  · exact e
  · rw [e] at h; exact absurd h (nI_pos (by omega))
theorem neg_m2 {K : Nat} {c : xCo} {v : Nat} (J : J9 K c) (hv : v < 5) (h : c.2.2.1 v 1 < 0) : c.2.2.1 v 1 = -1 := by
  have a5 := J.1.1.2
  rcases J.2.2.2.2.2.1.2.1 v hv with e | ⟨u, hu, e, -⟩
  · exact e
  · rw [e] at h; exact absurd h (nI_pos (by omega))
theorem sim_out {K : Nat} {c d : xCo} {t s : Int32} (R : R9 c d) (J : J9 K c) (hK : K < 16000000) : OK9 K c d (outS c t s) (mOut d t s) := by
  unfold outS mOut
  by_cases h1 : okT c t
  · rw [if_pos h1, if_pos ((okT_e R).mpr h1)]
    by_cases h2 : okU c s
    · rw [if_pos h2, if_pos ((okU_e R).mpr h2)]
      obtain ⟨j, hj, hj8, rfl⟩ := okT_n J h1
      obtain ⟨v, hv, hv5, rfl⟩ := okU_n J h2
      rw [nI_cl (by omega), nI_cl (by omega), ← (R.2.1 j hj).1 0 (by decide) (by decide), ← (R.2.1 j hj).1 1 (by decide) (by decide), ← (R.2.1 j hj).1 2 (by decide) (by decide), ← R.2.2.1 v hv 1 (by decide), ← R.1 7 (by decide)]
      by_cases h3 : c.2.1 j 1 < 0
      · rw [if_pos h3, if_pos h3]
        by_cases h4 : c.2.1 j 2 = 0
        · rw [if_pos h4, if_pos h4]
          by_cases h5 : c.2.2.1 v 1 < 0
          · rw [if_pos h5, if_pos h5]
            have m3 := neg_m1 J hj8 h3
            have m5 := neg_m2 J hv5 h5
            obtain ⟨w1, w2⟩ := (J.2.2.1 j hj8).2.2.2.2.2.2 m3
            obtain ⟨z, hz, ez⟩ := (J.2.2.1 j hj8).1
            obtain ⟨a, ha, ea⟩ := J.2.1.2.2.2.2
            rw [ez, ea, show (2 : Int32) * nI z = nI (2 * z) from pk_mul 2 z, nI_a2]
            have n8 := J.1.1.2
            have n5 := J.1.2.1.2
            have hR : R9 (cU (cT (cS c 7 (nI (a + 2 * z))) j 1 (nI v)) v 1 (nI j)) (cU (cT (cT (cT (cS d 7 (nI (a + 2 * z))) j 1 (nI v)) j 3 0) j 5 0) v 1 (nI j)) := r_U (r_Td (r_Td (r_T (r_S R (by decide)) (by decide)) (by decide) ((up2_k (by decide)).trans w1)) (by decide) ((up2_k (by decide)).trans w2))
            refine Or.inl ⟨rfl, rfl, ⟨_, by omega, rfl⟩, hR, j_S (K2 := K + 240) (K := K) (j_L1 J hj hv ((J.2.2.1 j hj8).k1 (fun q => absurd q (nI_m1 (by omega)))) ?_) (by decide) (by omega) (J.2.1.k7 (by omega) (by omega))⟩
            obtain ⟨l1, l2, l3, l4⟩ := J.2.2.2.2.2.1
            refine ⟨fun i hi => ?_, fun i hi => ?_, fun i hi => ?_, fun i hi => ?_⟩
            · show up2 c.2.1 j 1 (nI v) i 1 = -1 ∨ ∃ u, u < n2 c ∧ up2 c.2.1 j 1 (nI v) i 1 = nI u ∧ up2 c.2.2.1 v 1 (nI j) u 1 = nI i
              by_cases q : i = j
              · subst q
                exact Or.inr ⟨v, hv, up2_s, up2_s⟩
              · rw [up2_n q]
                rcases l1 i hi with h | ⟨u, hu, e1, e2⟩
                · exact Or.inl h
                · refine Or.inr ⟨u, hu, e1, ?_⟩
                  have hne : u ≠ v := fun z => by
                    rw [z, m5] at e2
                    exact nI_m1 (by omega) e2.symm
                  rw [up2_n hne]; exact e2
            · show up2 c.2.2.1 v 1 (nI j) i 1 = -1 ∨ ∃ u, u < n1 c ∧ up2 c.2.2.1 v 1 (nI j) i 1 = nI u ∧ up2 c.2.1 j 1 (nI v) u 1 = nI i
              by_cases q : i = v
              · subst q
                exact Or.inr ⟨j, hj, up2_s, up2_s⟩
              · rw [up2_n q]
                rcases l2 i hi with h | ⟨u, hu, e1, e2⟩
                · exact Or.inl h
                · refine Or.inr ⟨u, hu, e1, ?_⟩
                  have hne : u ≠ j := fun z => by
                    rw [z, m3] at e2
                    exact nI_m1 (by omega) e2.symm
                  rw [up2_n hne]; exact e2
            · show up2 c.2.2.1 v 1 (nI j) i 2 = -1 ∨ ∃ g, g < n3 c ∧ up2 c.2.2.1 v 1 (nI j) i 2 = nI g ∧ c.2.2.2 g 1 = nI i
              rw [up2_k (by decide)]; exact l3 i hi
            · rcases l4 i hi with h | ⟨u, hu, e1, e2⟩
              · exact Or.inl h
              · exact Or.inr ⟨u, hu, e1, (up2_k (by decide)).trans e2⟩
          · rw [if_neg h5, if_neg h5]; exact OK9.m1 (by decide)
        · rw [if_neg h4, if_neg h4]; exact OK9.m1 (by decide)
      · rw [if_neg h3, if_neg h3]; exact OK9.m1 (by decide)
    · rw [if_neg h2, if_neg (fun q => h2 ((okU_e R).mp q))]; exact OK9.m2
  · rw [if_neg h1, if_neg (fun q => h1 ((okT_e R).mp q))]; exact OK9.m2
theorem cT_comm {c : xCo} {j k k2 : Nat} {x y : Int32} (h : k ≠ k2) : cT (cT c j k x) j k2 y = cT (cT c j k2 y) j k x := by
  refine Prod.ext rfl (Prod.ext ?_ rfl)
  funext a b
  show up2 (up2 c.2.1 j k x) j k2 y a b = up2 (up2 c.2.1 j k2 y) j k x a b
  unfold up2
  by_cases h1 : a = j ∧ b = k2
  · have h2 : ¬ (a = j ∧ b = k) := fun q => h (q.2.symm.trans h1.2)
    simp only [if_pos h1, if_neg h2]
  · by_cases h2 : a = j ∧ b = k
    · simp only [if_neg h1, if_pos h2]
    · simp only [if_neg h1, if_neg h2]
theorem okU_in {K : Nat} {c : xCo} {v : Nat} (J : J9 K c) (h : v < n2 c) : okU c (nI v) := by
  have a := J.1.2.1
  refine ⟨nI_pos (by omega), fun q => ?_, fun q => ?_⟩
  · rw [a.1] at q
    have := (nI_leI (by omega) (by omega)).mp q; omega
  · have := (nI_leI (a := 5) (by omega) (by omega)).mp q; omega
theorem no_m1 : ¬ (0 : Int32) ≤ -1 := by decide
theorem sim_back {K : Nat} {c d : xCo} {t : Int32} (R : R9 c d) (J : J9 K c) (hK : K < 16000000) : OK9 K c d (backS c t) (mBack d t) := by
  unfold backS mBack
  by_cases h1 : okT c t
  · rw [if_pos h1, if_pos ((okT_e R).mpr h1)]
    obtain ⟨j, hj, hj8, rfl⟩ := okT_n J h1
    rw [nI_cl (by omega), ← (R.2.1 j hj).1 1 (by decide) (by decide), ← (R.2.1 j hj).1 3 (by decide) (by decide)]
    have n8 := J.1.1.2
    have n5 := J.1.2.1.2
    obtain ⟨l1, l2, l3, l4⟩ := J.2.2.2.2.2.1
    rcases l1 j hj8 with e | ⟨v, hv, e, e2⟩
    · rw [e, if_neg (fun q : okU c (-1) => q.1 (by decide)), if_neg no_m1]; exact OK9.m1 (by decide)
    · rw [e, if_pos (okU_in J hv), if_pos (nI_pos' (by omega)), nI_cl (by omega)]
      obtain ⟨l, hl, el⟩ := (J.2.2.1 j hj8).2.2.1
      have JA : J9 K (cU (cT (cT (cT c j 3 0) j 5 0) j 1 (-1)) v 1 (-1)) := by
        have J1 : J9 K (cT c j 3 0) := j_T J hj (by decide) ((J.2.2.1 j hj8).k3 (l := 0) (by decide) (fun _ => rfl))
        have J2 : J9 K (cT (cT c j 3 0) j 5 0) := j_T J1 hj (by decide) ((J1.2.2.1 j hj8).k5 (Or.inl rfl) (fun _ => rfl))
        refine j_L1 J2 hj hv ((J2.2.2.1 j hj8).k1 (fun _ => ⟨(up2_k (by decide)).trans up2_s, up2_s⟩)) ?_
        have t1 : ∀ i, (cT (cT c j 3 0) j 5 0).2.1 i 1 = c.2.1 i 1 := fun i => (up2_k (by decide)).trans (up2_k (by decide))
        refine ⟨fun i hi => ?_, fun i hi => ?_, fun i hi => ?_, fun i hi => ?_⟩
        · show up2 (cT (cT c j 3 0) j 5 0).2.1 j 1 (-1) i 1 = -1 ∨ ∃ u, u < n2 c ∧ up2 (cT (cT c j 3 0) j 5 0).2.1 j 1 (-1) i 1 = nI u ∧ up2 c.2.2.1 v 1 (-1) u 1 = nI i
          by_cases q : i = j
          · subst q; exact Or.inl up2_s
          · rw [up2_n q, t1]
            rcases l1 i hi with h | ⟨u, hu, e3, e4⟩
            · exact Or.inl h
            · refine Or.inr ⟨u, hu, e3, ?_⟩
              have hne : u ≠ v := fun z => by
                rw [z, e2] at e4
                exact q (nI_inj (by omega) (by omega) e4).symm
              rw [up2_n hne]; exact e4
        · show up2 c.2.2.1 v 1 (-1) i 1 = -1 ∨ ∃ u, u < n1 c ∧ up2 c.2.2.1 v 1 (-1) i 1 = nI u ∧ up2 (cT (cT c j 3 0) j 5 0).2.1 j 1 (-1) u 1 = nI i
          by_cases q : i = v
          · subst q; exact Or.inl up2_s
          · rw [up2_n q]
            rcases l2 i hi with h | ⟨u, hu, e3, e4⟩
            · exact Or.inl h
            · refine Or.inr ⟨u, hu, e3, ?_⟩
              have hne : u ≠ j := fun z => by
                rw [z, e] at e4
                exact q (nI_inj (by omega) (by omega) e4).symm
              rw [up2_n hne, t1]; exact e4
        · show up2 c.2.2.1 v 1 (-1) i 2 = -1 ∨ ∃ g, g < n3 c ∧ up2 c.2.2.1 v 1 (-1) i 2 = nI g ∧ c.2.2.2 g 1 = nI i
          rw [up2_k (by decide)]; exact l3 i hi
        · rcases l4 i hi with h | ⟨u, hu, e3, e4⟩
          · exact Or.inl h
          · exact Or.inr ⟨u, hu, e3, (up2_k (by decide)).trans e4⟩
      have hR : R9 (cU (cT (cT (cT c j 3 0) j 5 0) j 1 (-1)) v 1 (-1)) (cU (cT (cT (cT d j 1 (-1)) j 3 0) j 5 0) v 1 (-1)) := by
        rw [cT_comm (c := cT c j 3 0) (by decide), cT_comm (c := c) (by decide)]
        exact r_U (r_T (r_T3 (r_T R (by decide)) (fun q => absurd rfl q)) (by decide))
      exact Or.inl ⟨rfl, rfl, ⟨l, by omega, el⟩, hR, JA.mono (by omega)⟩
  · rw [if_neg h1, if_neg (fun q => h1 ((okT_e R).mp q))]; exact OK9.m2
theorem sim_join {K : Nat} {c d : xCo} {t : Int32} (R : R9 c d) (J : J9 K c) (hK : K < 16000000) : OK9 K c d (joinS c t) (mJoin d t) := by
  unfold joinS mJoin
  by_cases h1 : okU c t
  · rw [if_pos h1, if_pos ((okU_e R).mpr h1)]
    obtain ⟨v, hv, hv5, rfl⟩ := okU_n J h1
    rw [nI_cl (by omega), ← R.2.2.1 v hv 1 (by decide), ← R.2.2.1 v hv 4 (by decide), ← R.1 4 (by decide), ← R.1 5 (by decide), ← R.1 8 (by decide)]
    obtain ⟨m, hm, em⟩ := (J.2.2.2.1 v hv5).2
    rw [em]
    by_cases h2 : m = 6
    · subst h2
      rw [if_neg (show ¬ nI 6 < (6 : Int32) from by decide), if_pos (show nI 6 = (6 : Int32) from rfl)]; exact OK9.m1 (by decide)
    · rw [if_pos (show nI m < (6 : Int32) from nI_lt (b := 6) (by omega) (by decide)), if_neg (show ¬ nI m = (6 : Int32) from nI_ne (b := 6) h2 (by omega) (by decide))]
      by_cases h3 : 0 ≤ c.2.2.1 v 1
      · rw [if_pos h3, if_pos h3]
        by_cases h4 : c.1 4 = 0
        · rw [if_pos h4, if_pos h4]; exact OK9.m1 (by decide)
        · rw [if_neg h4, if_neg h4]
          obtain ⟨a, ha, ea⟩ := J.2.1.2.1
          rw [ea, nI_cl (by omega), nI_1, nI_1, show nI (a + 1) - 1 = nI a from pk_sub (a := a + 1) (b := 1) (by omega)]
          have J1 : J9 (K + 240) (cS c 4 (c.1 4 - 1)) := j_S J (by decide) (by omega) (J.2.1.ko (by omega) (by decide))
          have J2 : J9 (K + 240) (cU (cS c 4 (c.1 4 - 1)) v (5 + m) (nI a)) := j_U J1 hv ⟨by omega, by omega⟩ ((J1.2.2.2.1 v hv5).ko ⟨by omega, by omega⟩)
          have J3 : J9 (K + 240) (cU (cU (cS c 4 (c.1 4 - 1)) v (5 + m) (nI a)) v 4 (nI (m + 1))) := j_U J2 hv (by decide) ((J2.2.2.2.1 v hv5).k4 (by omega))
          exact Or.inl ⟨rfl, rfl, ⟨a, by omega, rfl⟩, r_S (r_U (r_U (r_S R (by decide)))) (by decide), j_S J3 (by decide) (Nat.le_refl _) (J3.2.1.k8 (Nat.le_refl _) (by omega))⟩
      · rw [if_neg h3, if_neg h3]; exact OK9.m1 (by decide)
  · rw [if_neg h1, if_neg (fun q => h1 ((okU_e R).mp q))]; exact OK9.m2
theorem neg_m3 {K : Nat} {c : xCo} {v : Nat} (J : J9 K c) (hv : v < 5) (h : c.2.2.1 v 2 < 0) : c.2.2.1 v 2 = -1 := by
  have a5 := J.1.2.2.2
  rcases J.2.2.2.2.2.1.2.2.1 v hv with e | ⟨u, hu, e, -⟩
  · exact e
  · rw [e] at h; exact absurd h (nI_pos (by omega))
theorem neg_m4 {K : Nat} {c : xCo} {g : Nat} (J : J9 K c) (hg : g < 4) (h : c.2.2.2 g 1 < 0) : c.2.2.2 g 1 = -1 := by
  have a5 := J.1.2.1.2
  rcases J.2.2.2.2.2.1.2.2.2 g hg with e | ⟨u, hu, e, -⟩
  · exact e
  · rw [e] at h; exact absurd h (nI_pos (by omega))
theorem sim_heat {K : Nat} {c d : xCo} {t s : Int32} (R : R9 c d) (J : J9 K c) (hK : K < 16000000) : OK9 K c d (heatPS c t s) (mHeat d t s) := by
  unfold heatPS mHeat
  by_cases h1 : okG c t
  · rw [if_pos h1, if_pos ((okG_e R).mpr h1)]
    by_cases h2 : okU c s
    · rw [if_pos h2, if_pos ((okU_e R).mpr h2)]
      obtain ⟨g, hg, hg4, rfl⟩ := okG_n J h1
      obtain ⟨v, hv, hv5, rfl⟩ := okU_n J h2
      rw [nI_cl (by omega), nI_cl (by omega), ← R.2.2.2 g hg 0 (by decide), ← R.2.2.2 g hg 1 (by decide), ← R.2.2.1 v hv 2 (by decide)]
      by_cases h3 : c.2.2.2 g 1 < 0
      · rw [if_pos h3, if_pos h3]
        by_cases h5 : c.2.2.1 v 2 < 0
        · rw [if_pos h5, if_pos h5]
          have m3 := neg_m4 J hg4 h3
          have m5 := neg_m3 J hv5 h5
          obtain ⟨q, hq, eq⟩ := J.2.2.2.2.1 g hg4
          have n5 := J.1.2.1.2
          have n4 := J.1.2.2.2
          obtain ⟨l1, l2, l3, l4⟩ := J.2.2.2.2.2.1
          refine Or.inl ⟨rfl, rfl, ⟨q, by omega, eq⟩, r_U (r_G R), (j_L2 J hg hv ⟨fun i hi => ?_, fun i hi => ?_, fun i hi => ?_, fun i hi => ?_⟩).mono (by omega)⟩
          · rcases l1 i hi with h | ⟨u, hu, e1, e2⟩
            · exact Or.inl h
            · exact Or.inr ⟨u, hu, e1, (up2_k (by decide)).trans e2⟩
          · show up2 c.2.2.1 v 2 (nI g) i 1 = -1 ∨ ∃ u, u < n1 c ∧ up2 c.2.2.1 v 2 (nI g) i 1 = nI u ∧ c.2.1 u 1 = nI i
            rw [up2_k (by decide)]; exact l2 i hi
          · show up2 c.2.2.1 v 2 (nI g) i 2 = -1 ∨ ∃ u, u < n3 c ∧ up2 c.2.2.1 v 2 (nI g) i 2 = nI u ∧ up2 c.2.2.2 g 1 (nI v) u 1 = nI i
            by_cases q : i = v
            · subst q
              exact Or.inr ⟨g, hg, up2_s, up2_s⟩
            · rw [up2_n q]
              rcases l3 i hi with h | ⟨u, hu, e1, e2⟩
              · exact Or.inl h
              · refine Or.inr ⟨u, hu, e1, ?_⟩
                have hne : u ≠ g := fun z => by
                  rw [z, m3] at e2
                  exact nI_m1 (by omega) e2.symm
                rw [up2_n hne]; exact e2
          · show up2 c.2.2.2 g 1 (nI v) i 1 = -1 ∨ ∃ u, u < n2 c ∧ up2 c.2.2.2 g 1 (nI v) i 1 = nI u ∧ up2 c.2.2.1 v 2 (nI g) u 2 = nI i
            by_cases q : i = g
            · subst q
              exact Or.inr ⟨v, hv, up2_s, up2_s⟩
            · rw [up2_n q]
              rcases l4 i hi with h | ⟨u, hu, e1, e2⟩
              · exact Or.inl h
              · refine Or.inr ⟨u, hu, e1, ?_⟩
                have hne : u ≠ v := fun z => by
                  rw [z, m5] at e2
                  exact nI_m1 (by omega) e2.symm
                rw [up2_n hne]; exact e2
        · rw [if_neg h5, if_neg h5]; exact OK9.m1 (by decide)
      · rw [if_neg h3, if_neg h3]; exact OK9.m1 (by decide)
    · rw [if_neg h2, if_neg (fun q => h2 ((okU_e R).mp q))]; exact OK9.m2
  · rw [if_neg h1, if_neg (fun q => h1 ((okG_e R).mp q))]; exact OK9.m2
theorem sim_cold {K : Nat} {c d : xCo} {t : Int32} (R : R9 c d) (J : J9 K c) (hK : K < 16000000) : OK9 K c d (coldS c t) (mCold d t) := by
  unfold coldS mCold
  by_cases h1 : okG c t
  · rw [if_pos h1, if_pos ((okG_e R).mpr h1)]
    obtain ⟨g, hg, hg4, rfl⟩ := okG_n J h1
    rw [nI_cl (by omega), ← R.2.2.2 g hg 1 (by decide)]
    have n5 := J.1.2.1.2
    have n4 := J.1.2.2.2
    obtain ⟨l1, l2, l3, l4⟩ := J.2.2.2.2.2.1
    rcases l4 g hg4 with e | ⟨v, hv, e, e2⟩
    · rw [e, if_neg (fun q : okU c (-1) => q.1 (by decide)), if_neg no_m1]; exact OK9.m1 (by decide)
    · rw [e, if_pos (okU_in J hv), if_pos (nI_pos' (by omega)), nI_cl (by omega)]
      refine Or.inl ⟨rfl, rfl, ⟨v, by omega, rfl⟩, r_U (r_G R), (j_L2 J hg hv ⟨fun i hi => ?_, fun i hi => ?_, fun i hi => ?_, fun i hi => ?_⟩).mono (by omega)⟩
      · rcases l1 i hi with h | ⟨u, hu, e1, e2⟩
        · exact Or.inl h
        · exact Or.inr ⟨u, hu, e1, (up2_k (by decide)).trans e2⟩
      · show up2 c.2.2.1 v 2 (-1) i 1 = -1 ∨ ∃ u, u < n1 c ∧ up2 c.2.2.1 v 2 (-1) i 1 = nI u ∧ c.2.1 u 1 = nI i
        rw [up2_k (by decide)]; exact l2 i hi
      · show up2 c.2.2.1 v 2 (-1) i 2 = -1 ∨ ∃ u, u < n3 c ∧ up2 c.2.2.1 v 2 (-1) i 2 = nI u ∧ up2 c.2.2.2 g 1 (-1) u 1 = nI i
        by_cases q : i = v
        · subst q; exact Or.inl up2_s
        · rw [up2_n q]
          rcases l3 i hi with h | ⟨u, hu, e3, e4⟩
          · exact Or.inl h
          · refine Or.inr ⟨u, hu, e3, ?_⟩
            have hne : u ≠ g := fun z => by
              rw [z, e] at e4
              exact q (nI_inj (by omega) (by omega) e4).symm
            rw [up2_n hne]; exact e4
      · show up2 c.2.2.2 g 1 (-1) i 1 = -1 ∨ ∃ u, u < n2 c ∧ up2 c.2.2.2 g 1 (-1) i 1 = nI u ∧ up2 c.2.2.1 v 2 (-1) u 2 = nI i
        by_cases q : i = g
        · subst q; exact Or.inl up2_s
        · rw [up2_n q]
          rcases l4 i hi with h | ⟨u, hu, e3, e4⟩
          · exact Or.inl h
          · refine Or.inr ⟨u, hu, e3, ?_⟩
            have hne : u ≠ v := fun z => by
              rw [z, e2] at e4
              exact q (nI_inj (by omega) (by omega) e4).symm
            rw [up2_n hne]; exact e4
  · rw [if_neg h1, if_neg (fun q => h1 ((okG_e R).mp q))]; exact OK9.m2
theorem LT.k0 {K : Nat} {f : Nat → Int32} {z : Nat} (H : LT K f) (h : z ≤ 3) : LT K (upd f 0 (nI z)) := by
  obtain ⟨x0, x2, x3, x4, x5, x6, x1⟩ := H
  exact ⟨⟨z, h, upd_s⟩, by rw [upd_o (by decide)]; exact x2, by rw [upd_o (by decide)]; exact x3, by rw [upd_o (by decide)]; exact x4, by rw [upd_o (by decide)]; exact x5, by rw [upd_o (by decide)]; exact x6, by rw [upd_o (by decide), upd_o (by decide), upd_o (by decide)]; exact x1⟩
theorem sim_tub {K : Nat} {c d : xCo} {z : Int32} (R : R9 c d) (J : J9 K c) : OK9 K c d (addTubS c z) (mTub d z) := by
  unfold addTubS mTub
  by_cases h0 : z < 1 ∨ 3 < z
  · rw [if_pos h0, if_pos h0]; exact OK9.m3
  · rw [if_neg h0, if_neg h0]
    obtain ⟨y, hy1, hy2, rfl⟩ := rng (N := 3) (by decide) (fun q => h0 (Or.inl q)) (Int32.not_lt.mp fun q => h0 (Or.inr q))
    obtain ⟨⟨eN, hN⟩, j2, j3⟩ := J.1
    rw [← R.1 1 (by decide)]
    generalize hNn : n1 c = N at eN hN
    rw [eN, if_neg (nI_pos (by omega)), nI_cl (by omega), nI_1]
    by_cases h1 : N = 8
    · subst h1
      rw [if_neg (show ¬ nI 8 < (8 : Int32) from by decide), if_pos (show nI 8 = (8 : Int32) from rfl)]; exact OK9.m1 (by decide)
    · rw [if_pos (show nI N < (8 : Int32) from nI_lt (b := 8) (by omega) (by decide)), if_neg (show ¬ nI N = (8 : Int32) from nI_ne (b := 8) h1 (by omega) (by decide))]
      have e1 : n1 (cS (cT c N 0 (nI y)) 1 (nI (N + 1))) = N + 1 := (congrArg Int32.toNatClampNeg upd_s).trans (nI_cl (by omega))
      have e2 : n2 (cS (cT c N 0 (nI y)) 1 (nI (N + 1))) = n2 c := congrArg Int32.toNatClampNeg (show upd c.1 1 (nI (N + 1)) 2 = c.1 2 from upd_o (by decide))
      have e3 : n3 (cS (cT c N 0 (nI y)) 1 (nI (N + 1))) = n3 c := congrArg Int32.toNatClampNeg (show upd c.1 1 (nI (N + 1)) 3 = c.1 3 from upd_o (by decide))
      obtain ⟨-, b, t, u, g, ⟨l1, l2, l3, l4⟩, ⟨f1, f2, f3⟩, sz⟩ := J
      have fN := f1 N (by omega) (by omega)
      refine Or.inl ⟨rfl, rfl, ⟨N, by omega, rfl⟩, ?_, ?_⟩
      · obtain ⟨a, p, q, s⟩ := R
        unfold R9
        rw [e1, e2, e3]
        refine ⟨fun i hi => upd_e (fun _ => a i hi), fun i hi => ?_, q, s⟩
        show (∀ k, k < 7 → k ≠ 4 → up2 c.2.1 N 0 (nI y) i k = (rowT d N (nI y) 7).2.1 i k) ∧ (up2 c.2.1 N 0 (nI y) i 3 ≠ 0 → up2 c.2.1 N 0 (nI y) i 4 = (rowT d N (nI y) 7).2.1 i 4)
        by_cases e : i = N
        · subst e
          refine ⟨fun k hk hk4 => ?_, fun hh => absurd ((up2_k (by decide)).trans (fN 3 (by decide))) hh⟩
          rw [show (rowT d i (nI y) 7).2.1 i k = (if k = 0 then nI y else if k = 1 then -1 else 0) from if_pos ⟨rfl, hk⟩]
          by_cases k0 : k = 0
          · subst k0; exact up2_s
          · rw [up2_k k0, fN k hk, if_neg k0]
            unfold tub0
            by_cases k1 : k = 1
            · rw [if_pos k1, if_pos k1]
            · rw [if_neg k1, if_neg k1, if_neg hk4]
        · have er : (rowT d N (nI y) 7).2.1 i = d.2.1 i := by
            funext k
            exact if_neg (fun q => e q.1)
          rw [up2_n e, er]
          exact p i (by omega)
      · unfold J9 JN JL JF
        rw [e1, e2, e3]
        refine ⟨⟨⟨(show upd c.1 1 (nI (N + 1)) 1 = nI (N + 1) from upd_s), by omega⟩, ⟨(show upd c.1 1 (nI (N + 1)) 2 = c.1 2 from upd_o (by decide)).trans j2.1, j2.2⟩, ⟨(show upd c.1 1 (nI (N + 1)) 3 = c.1 3 from upd_o (by decide)).trans j3.1, j3.2⟩⟩, b.ko (by omega) (by decide), fun i hi => ?_, u, g, ⟨fun i hi => ?_, fun i hi => ?_, l3, l4⟩, ⟨fun i ha hb => ?_, f2, f3⟩, fun i hi => ?_⟩
        · show LT (K + 240) (up2 c.2.1 N 0 (nI y) i)
          by_cases q : i = N
          · subst q; rw [up2_r]; exact ((t i hi).k0 hy2).mono (by omega)
          · rw [up2_n q]; exact (t i hi).mono (by omega)
        · rw [show (cS (cT c N 0 (nI y)) 1 (nI (N + 1))).2.1 i 1 = c.2.1 i 1 from up2_k (by decide)]
          exact l1 i hi
        · rcases l2 i hi with h | ⟨w, hw, e4, e5⟩
          · exact Or.inl h
          · exact Or.inr ⟨w, by omega, e4, (up2_k (by decide)).trans e5⟩
        · show ∀ k, k < 7 → up2 c.2.1 N 0 (nI y) i k = tub0 k
          rw [up2_n (by omega)]; exact f1 i (by omega) hb
        · show ¬ up2 c.2.1 N 0 (nI y) i 0 = 0
          by_cases q : i = N
          · subst q; rw [up2_s]; exact nI_ne0 hy1 (by omega)
          · rw [up2_n q]; exact sz i (by omega)
theorem LU.k0 {f : Nat → Int32} {z : Nat} (H : LU f) (h : z ≤ 9) : LU (upd f 0 (nI z)) := by
  obtain ⟨a, b⟩ := H
  exact ⟨⟨z, h, upd_s⟩, by rw [upd_o (by decide)]; exact b⟩
theorem sim_tent {K : Nat} {c d : xCo} {z : Int32} (R : R9 c d) (J : J9 K c) : OK9 K c d (addTentS c z) (mTent d z) := by
  unfold addTentS mTent
  by_cases h0 : z < 0
  · rw [if_pos h0, if_pos (Or.inl h0)]; exact OK9.m3
  · rw [if_neg h0]
    by_cases h9 : z ≤ 9
    · have hn9 : ¬ (z < 0 ∨ 9 < z) := fun q => q.elim h0 (fun r => Int32.not_le.mpr r h9)
      rw [if_pos h9, if_neg hn9]
      obtain ⟨y, hy, rfl⟩ := nI_of h0
      have hy2 : y ≤ 9 := (nI_leI (b := 9) (by omega) (by decide)).mp h9
      obtain ⟨j2, ⟨eN, hN⟩, j3⟩ := J.1
      rw [← R.1 2 (by decide)]
      generalize hNn : n2 c = N at eN hN
      rw [eN, if_neg (nI_pos (by omega)), nI_cl (by omega), nI_1]
      by_cases h1 : N = 5
      · subst h1
        rw [if_neg (show ¬ nI 5 < (5 : Int32) from by decide), if_pos (show nI 5 = (5 : Int32) from rfl)]; exact OK9.m1 (by decide)
      · rw [if_pos (show nI N < (5 : Int32) from nI_lt (b := 5) (by omega) (by decide)), if_neg (show ¬ nI N = (5 : Int32) from nI_ne (b := 5) h1 (by omega) (by decide))]
        have e2 : n2 (cS (cU c N 0 (nI y)) 2 (nI (N + 1))) = N + 1 := (congrArg Int32.toNatClampNeg upd_s).trans (nI_cl (by omega))
        have e1 : n1 (cS (cU c N 0 (nI y)) 2 (nI (N + 1))) = n1 c := congrArg Int32.toNatClampNeg (show upd c.1 2 (nI (N + 1)) 1 = c.1 1 from upd_o (by decide))
        have e3 : n3 (cS (cU c N 0 (nI y)) 2 (nI (N + 1))) = n3 c := congrArg Int32.toNatClampNeg (show upd c.1 2 (nI (N + 1)) 3 = c.1 3 from upd_o (by decide))
        obtain ⟨-, b, t, u, g, ⟨l1, l2, l3, l4⟩, ⟨f1, f2, f3⟩, sz⟩ := J
        have fN := f2 N (by omega) (by omega)
        refine Or.inl ⟨rfl, rfl, ⟨N, by omega, rfl⟩, ?_, ?_⟩
        · obtain ⟨a, p, q, s⟩ := R
          unfold R9
          rw [e1, e2, e3]
          refine ⟨fun i hi => upd_e (fun _ => a i hi), p, fun i hi => ?_, s⟩
          show ∀ k, k < 11 → up2 c.2.2.1 N 0 (nI y) i k = (rowU d N (nI y) 11).2.2.1 i k
          by_cases e : i = N
          · subst e
            intro k hk
            rw [show (rowU d i (nI y) 11).2.2.1 i k = (if k = 0 then nI y else if k = 1 then -1 else if k = 2 then -1 else 0) from if_pos ⟨rfl, hk⟩]
            by_cases k0 : k = 0
            · subst k0; exact up2_s
            · rw [up2_k k0, fN k hk, if_neg k0]; rfl
          · have er : (rowU d N (nI y) 11).2.2.1 i = d.2.2.1 i := by
              funext k
              exact if_neg (fun q => e q.1)
            rw [up2_n e, er]
            exact q i (by omega)
        · unfold J9 JN JL JF
          rw [e1, e2, e3]
          refine ⟨⟨⟨(show upd c.1 2 (nI (N + 1)) 1 = c.1 1 from upd_o (by decide)).trans j2.1, j2.2⟩, ⟨(show upd c.1 2 (nI (N + 1)) 2 = nI (N + 1) from upd_s), by omega⟩, ⟨(show upd c.1 2 (nI (N + 1)) 3 = c.1 3 from upd_o (by decide)).trans j3.1, j3.2⟩⟩, b.ko (by omega) (by decide), fun i hi => (t i hi).mono (by omega), fun i hi => ?_, g, ⟨fun i hi => ?_, fun i hi => ?_, fun i hi => ?_, fun i hi => ?_⟩, ⟨f1, fun i ha hb => ?_, f3⟩, sz⟩
          · show LU (up2 c.2.2.1 N 0 (nI y) i)
            by_cases q : i = N
            · subst q; rw [up2_r]; exact (u i hi).k0 hy2
            · rw [up2_n q]; exact u i hi
          · rcases l1 i hi with h | ⟨w, hw, e4, e5⟩
            · exact Or.inl h
            · exact Or.inr ⟨w, by omega, e4, (up2_k (by decide)).trans e5⟩
          · rw [show (cS (cU c N 0 (nI y)) 2 (nI (N + 1))).2.2.1 i 1 = c.2.2.1 i 1 from up2_k (by decide)]
            exact l2 i hi
          · rw [show (cS (cU c N 0 (nI y)) 2 (nI (N + 1))).2.2.1 i 2 = c.2.2.1 i 2 from up2_k (by decide)]
            exact l3 i hi
          · rcases l4 i hi with h | ⟨w, hw, e4, e5⟩
            · exact Or.inl h
            · exact Or.inr ⟨w, by omega, e4, (up2_k (by decide)).trans e5⟩
          · show ∀ k, k < 11 → up2 c.2.2.1 N 0 (nI y) i k = tnt0 k
            rw [up2_n (by omega)]; exact f2 i (by omega) hb
    · have hn9 : z < 0 ∨ 9 < z := Or.inr (Int32.not_le.mp h9)
      rw [if_neg h9, if_pos hn9]; exact OK9.m3
theorem sim_heater {K : Nat} {c d : xCo} (R : R9 c d) (J : J9 K c) : OK9 K c d (addHeaterS c) (mHeater d) := by
  unfold addHeaterS mHeater
  obtain ⟨j2, j3, ⟨eN, hN⟩⟩ := J.1
  rw [← R.1 3 (by decide)]
  generalize hNn : n3 c = N at eN hN
  rw [eN, nI_cl (by omega), nI_1]
  by_cases h1 : N = 4
  · subst h1
    rw [if_neg (show ¬ nI 4 < (4 : Int32) from by decide), if_pos (show nI 4 = (4 : Int32) from rfl)]; exact OK9.m1 (by decide)
  · rw [if_pos (show nI N < (4 : Int32) from nI_lt (b := 4) (by omega) (by decide)), if_neg (show ¬ nI N = (4 : Int32) from nI_ne (b := 4) h1 (by omega) (by decide))]
    have e3 : n3 (cS c 3 (nI (N + 1))) = N + 1 := (congrArg Int32.toNatClampNeg upd_s).trans (nI_cl (by omega))
    have e1 : n1 (cS c 3 (nI (N + 1))) = n1 c := congrArg Int32.toNatClampNeg (show upd c.1 3 (nI (N + 1)) 1 = c.1 1 from upd_o (by decide))
    have e2 : n2 (cS c 3 (nI (N + 1))) = n2 c := congrArg Int32.toNatClampNeg (show upd c.1 3 (nI (N + 1)) 2 = c.1 2 from upd_o (by decide))
    obtain ⟨-, b, t, u, g, ⟨l1, l2, l3, l4⟩, ⟨f1, f2, f3⟩, sz⟩ := J
    have fN := f3 N (by omega) (by omega)
    refine Or.inl ⟨rfl, rfl, ⟨N, by omega, rfl⟩, ?_, ?_⟩
    · obtain ⟨a, p, q, s⟩ := R
      unfold R9
      rw [e1, e2, e3]
      refine ⟨fun i hi => upd_e (fun _ => a i hi), p, q, fun i hi => ?_⟩
      show ∀ k, k < 2 → c.2.2.2 i k = up2 (up2 d.2.2.2 N 0 20) N 1 (-1) i k
      by_cases e : i = N
      · subst e
        intro k hk
        rw [fN k hk]
        rcases (show k = 0 ∨ k = 1 by omega) with rfl | rfl
        · exact ((up2_k (by decide)).trans up2_s).symm
        · exact up2_s.symm
      · rw [up2_n e, up2_n e]
        exact s i (by omega)
    · unfold J9 JN JL JF
      rw [e1, e2, e3]
      refine ⟨⟨⟨(show upd c.1 3 (nI (N + 1)) 1 = c.1 1 from upd_o (by decide)).trans j2.1, j2.2⟩, ⟨(show upd c.1 3 (nI (N + 1)) 2 = c.1 2 from upd_o (by decide)).trans j3.1, j3.2⟩, ⟨(show upd c.1 3 (nI (N + 1)) 3 = nI (N + 1) from upd_s), by omega⟩⟩, b.ko (by omega) (by decide), fun i hi => (t i hi).mono (by omega), u, g, ⟨l1, l2, fun i hi => ?_, l4⟩, ⟨f1, f2, fun i ha hb => f3 i (by omega) hb⟩, sz⟩
      rcases l3 i hi with h | ⟨w, hw, e4, e5⟩
      · exact Or.inl h
      · exact Or.inr ⟨w, by omega, e4, e5⟩
