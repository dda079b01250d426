/-! ===== 55.good: what adds up in the hire's store ===== -/
def sN (f : Nat → Nat) : Nat → Nat
  | 0 => 0
  | n + 1 => sN f n + f n
theorem sN_ext {f g : Nat → Nat} : ∀ n, (∀ i, i < n → f i = g i) → sN f n = sN g n
  | 0, _ => rfl
  | n + 1, h => by
    show sN f n + f n = sN g n + g n
    rw [sN_ext n (fun i hi => h i (by omega)), h n (by omega)]
/-- one place changes -/
theorem sN_up {f g : Nat → Nat} {k : Nat} : ∀ n, k < n → (∀ i, i < n → i ≠ k → g i = f i) → sN g n + f k = sN f n + g k
  | 0, h, _ => absurd h (Nat.not_lt_zero _)
  | n + 1, h, e => by
    show sN g n + g n + f k = sN f n + f n + g k
    by_cases q : k = n
    · subst q
      rw [sN_ext (f := g) (g := f) k (fun i hi => e i (by omega) (by omega))]
      omega
    · have := sN_up (f := f) (g := g) (k := k) n (by omega) (fun i hi hk => e i (by omega) hk)
      rw [e n (by omega) (fun z => q z.symm)]
      omega
theorem sN_cut {f : Nat → Nat} {m : Nat} : ∀ n, m ≤ n → (∀ i, m ≤ i → i < n → f i = 0) → sN f n = sN f m
  | 0, h, _ => by rw [Nat.le_zero.mp h]
  | n + 1, h, e => by
    by_cases q : m = n + 1
    · rw [q]
    · show sN f n + f n = sN f m
      rw [e n (by omega) (by omega), sN_cut n (by omega) (fun i h1 h2 => e i h1 (by omega)), Nat.add_zero]
theorem sN_le {f : Nat → Nat} {b : Nat} : ∀ n, (∀ i, i < n → f i ≤ b) → sN f n ≤ b * n
  | 0, _ => Nat.zero_le _
  | n + 1, h => by
    show sN f n + f n ≤ b * (n + 1)
    have := sN_le n (fun i hi => h i (by omega))
    have := h n (by omega)
    rw [Nat.mul_add, Nat.mul_one]
    omega
theorem sN_mem {f : Nat → Nat} {k : Nat} : ∀ n, k < n → f k ≤ sN f n
  | 0, h => absurd h (Nat.not_lt_zero _)
  | n + 1, h => by
    show f k ≤ sN f n + f n
    by_cases q : k = n
    · subst q; omega
    · have := sN_mem (f := f) (k := k) n (by omega)
      omega
theorem sN_sub {f g e : Nat → Nat} : ∀ n, (∀ i, i < n → f i + g i = e i) → sN f n + sN g n = sN e n
  | 0, _ => rfl
  | n + 1, h => by
    show sN f n + f n + (sN g n + g n) = sN e n + e n
    have := sN_sub n (fun i hi => h i (by omega))
    have := h n (by omega)
    omega
theorem sumS_n {F : Nat → Int32} {f : Nat → Nat} : ∀ n, (∀ i, i < n → F i = nI (f i)) → sumS F n = nI (sN f n)
  | 0, _ => nI_0.symm
  | n + 1, h => by
    show sumS F n + F n = nI (sN f n + f n)
    rw [sumS_n n (fun i hi => h i (by omega)), h n (by omega), nI_add]
theorem sumS_ext {F G : Nat → Int32} : ∀ n, (∀ i, i < n → F i = G i) → sumS F n = sumS G n
  | 0, _ => rfl
  | n + 1, h => by
    show sumS F n + F n = sumS G n + G n
    rw [sumS_ext n (fun i hi => h i (by omega)), h n (by omega)]
/-- how many wait in a tent, how many bathed there, a tub's baths -/
def wt (c : xCo) (u : Nat) : Nat := (c.2.2.1 u 4).toNatClampNeg
def bt (c : xCo) (u : Nat) : Nat := (c.2.2.1 u 3).toNatClampNeg
def tbn (c : xCo) (j : Nat) : Nat := (c.2.1 j 6).toNatClampNeg
/-- the queues: guests who came, each at one place, in their order -/
def QQ (ca : Nat) (c : xCo) : Prop := (∀ u, u < 5 → ∀ p, p < wt c u → ∃ g, g < ca ∧ c.2.2.1 u (5 + p) = nI g) ∧
  (∀ u v p q, u < 5 → v < 5 → p < wt c u → q < wt c v → c.2.2.1 u (5 + p) = c.2.2.1 v (5 + q) → u = v ∧ p = q) ∧
  (∀ u p, u < 5 → p + 1 < wt c u → c.2.2.1 u (5 + p) < c.2.2.1 u (5 + (p + 1)))
/-- a tub: no more than it holds; without water it is not dirty -/
def DT (f : Nat → Int32) : Prop := (f 3 = 0 → f 5 = 0) ∧ ∃ z l, z ≤ 3 ∧ l ≤ 100 * z ∧ f 0 = nI z ∧ f 3 = nI l
/-- WHAT ADDS UP; m bounds the guests who came -/
def GQ (m : Nat) (c : xCo) : Prop := ∃ cl us ca ba : Nat, (c.1 4 = nI cl ∧ c.1 5 = nI us ∧ c.1 8 = nI ca ∧ c.1 9 = nI ba) ∧
  (cl + us + sN (wt c) 5 = 12 ∧ ca = sN (wt c) 5 + ba ∧ ca ≤ m) ∧ ((∀ u, u < 5 → c.2.2.1 u 3 = nI (bt c u)) ∧ sN (bt c) 5 = ba) ∧ sN (tbn c) 8 = ba ∧ QQ ca c ∧ ∀ j, j < 8 → DT (c.2.1 j)
theorem GQ.mono {m m2 : Nat} {c : xCo} (G : GQ m c) (h : m ≤ m2) : GQ m2 c := by
  obtain ⟨cl, us, ca, ba, a, ⟨b1, b2, b3⟩, r⟩ := G
  exact ⟨cl, us, ca, ba, a, ⟨b1, b2, by omega⟩, r⟩
theorem DT.o {f : Nat → Int32} {k : Nat} {x : Int32} (D : DT f) (h : k ≠ 0 ∧ k ≠ 3 ∧ k ≠ 5) : DT (upd f k x) := by
  unfold DT
  rw [upd_o (fun e => h.1 e.symm), upd_o (fun e => h.2.1 e.symm), upd_o (fun e => h.2.2 e.symm)]
  exact D
theorem DT.k5 {f : Nat → Int32} (h : ∃ z l, z ≤ 3 ∧ l ≤ 100 * z ∧ f 0 = nI z ∧ f 3 = nI l) : DT (upd f 5 0) := by
  unfold DT
  rw [upd_s, upd_o (by decide), upd_o (by decide)]
  exact ⟨fun _ => rfl, h⟩
theorem DT.k3 {f : Nat → Int32} {z l : Nat} (hz : z ≤ 3) (h0 : f 0 = nI z) (hl : l ≤ 100 * z) (h5 : l = 0 → f 5 = 0) : DT (upd f 3 (nI l)) := by
  unfold DT
  rw [upd_s, upd_o (by decide), upd_o (by decide)]
  exact ⟨fun e => h5 (nI_inj (by omega) (by decide) e), z, l, hz, hl, h0, rfl⟩
theorem dt_T {c : xCo} {j k : Nat} {x : Int32} (D : ∀ a, a < 8 → a ≠ j → DT (c.2.1 a)) (h : j < 8 → DT (upd (c.2.1 j) k x)) : ∀ a, a < 8 → DT ((cT c j k x).2.1 a) := by
  intro a ha
  show DT (up2 c.2.1 j k x a)
  by_cases e : a = j
  · subst e; rw [up2_r]; exact h ha
  · rw [up2_n e]; exact D a ha e
/-- what changes nothing of it -/
def AG (c d : xCo) : Prop := (d.1 4 = c.1 4 ∧ d.1 5 = c.1 5 ∧ d.1 8 = c.1 8 ∧ d.1 9 = c.1 9) ∧ (∀ u, u < 5 → ∀ k, 3 ≤ k → k < 11 → d.2.2.1 u k = c.2.2.1 u k) ∧ (∀ j, j < 8 → d.2.1 j 6 = c.2.1 j 6) ∧ ((∀ j, j < 8 → DT (c.2.1 j)) → ∀ j, j < 8 → DT (d.2.1 j))
theorem AG.id {c : xCo} : AG c c := ⟨⟨rfl, rfl, rfl, rfl⟩, fun _ _ _ _ _ => rfl, fun _ _ => rfl, fun h => h⟩
theorem AG.S {c d : xCo} {k : Nat} {x : Int32} (A : AG c d) (h : k ≠ 4 ∧ k ≠ 5 ∧ k ≠ 8 ∧ k ≠ 9) : AG c (cS d k x) := by
  obtain ⟨⟨a1, a2, a3, a4⟩, b⟩ := A
  exact ⟨⟨(upd_o (fun e => h.1 e.symm)).trans a1, (upd_o (fun e => h.2.1 e.symm)).trans a2, (upd_o (fun e => h.2.2.1 e.symm)).trans a3, (upd_o (fun e => h.2.2.2 e.symm)).trans a4⟩, b⟩
theorem AG.T {c d : xCo} {j k : Nat} {x : Int32} (A : AG c d) (h : k ≠ 0 ∧ k ≠ 3 ∧ k ≠ 5 ∧ k ≠ 6) : AG c (cT d j k x) := by
  obtain ⟨a, b, e, f⟩ := A
  exact ⟨a, b, fun i hi => (up2_2 (fun z => h.2.2.2 z.symm)).trans (e i hi), fun D => dt_T (fun i hi _ => f D i hi) (fun hj => (f D j hj).o ⟨h.1, h.2.1, h.2.2.1⟩)⟩
theorem AG.U {c d : xCo} {v k : Nat} {x : Int32} (A : AG c d) (h : k < 3) : AG c (cU d v k x) := by
  obtain ⟨a, b, e, f⟩ := A
  exact ⟨a, fun u hu i h1 h2 => (up2_2 (by omega)).trans (b u hu i h1 h2), e, f⟩
theorem AG.G {c d : xCo} {v k : Nat} {x : Int32} (A : AG c d) : AG c (cG d v k x) := A
theorem AG.wtq {c d : xCo} (A : AG c d) {u : Nat} (hu : u < 5) : wt d u = wt c u := congrArg Int32.toNatClampNeg (A.2.1 u hu 4 (by decide) (by decide))
theorem QQ.of {ca : Nat} {c d : xCo} (Q : QQ ca c) (hl : ∀ u, u < 5 → wt c u ≤ 6) (h : ∀ u, u < 5 → ∀ k, 4 ≤ k → k < 11 → d.2.2.1 u k = c.2.2.1 u k) : QQ ca d := by
  have hw : ∀ u, u < 5 → wt d u = wt c u := fun u hu => congrArg Int32.toNatClampNeg (h u hu 4 (by decide) (by decide))
  obtain ⟨a, b, e⟩ := Q
  refine ⟨fun u hu p hp => ?_, fun u v p q hu hv hp hq z => ?_, fun u p hu hp => ?_⟩
  · rw [hw u hu] at hp
    have := hl u hu
    rw [h u hu (5 + p) (by omega) (by omega)]
    exact a u hu p hp
  · rw [hw u hu] at hp
    rw [hw v hv] at hq
    have := hl u hu
    have := hl v hv
    rw [h u hu (5 + p) (by omega) (by omega), h v hv (5 + q) (by omega) (by omega)] at z
    exact b u v p q hu hv hp hq z
  · rw [hw u hu] at hp
    have := hl u hu
    rw [h u hu (5 + p) (by omega) (by omega), h u hu (5 + (p + 1)) (by omega) (by omega)]
    exact e u p hu hp
theorem J9.wtq {K : Nat} {c : xCo} (J : J9 K c) {u : Nat} (hu : u < 5) : c.2.2.1 u 4 = nI (wt c u) ∧ wt c u ≤ 6 := by
  obtain ⟨m, h1, h2⟩ := (J.2.2.2.1 u hu).2
  unfold wt
  rw [h2, nI_cl (by omega)]
  exact ⟨rfl, h1⟩
theorem GQ.ag {K m : Nat} {c d : xCo} (G : GQ m c) (J : J9 K c) (A : AG c d) : GQ m d := by
  obtain ⟨cl, us, ca, ba, ⟨a1, a2, a3, a4⟩, ⟨b1, b2, b3⟩, ⟨e1, e2⟩, f, Q, D⟩ := G
  obtain ⟨⟨z1, z2, z3, z4⟩, y, x, v⟩ := id A
  have hw : sN (wt d) 5 = sN (wt c) 5 := sN_ext 5 (fun u hu => A.wtq hu)
  have hb : ∀ u, u < 5 → bt d u = bt c u := fun u hu => congrArg Int32.toNatClampNeg (y u hu 3 (by decide) (by decide))
  refine ⟨cl, us, ca, ba, ⟨z1.trans a1, z2.trans a2, z3.trans a3, z4.trans a4⟩, ⟨by rw [hw]; exact b1, by rw [hw]; exact b2, b3⟩, ⟨fun u hu => ?_, ?_⟩, ?_, Q.of (fun u hu => (J.wtq hu).2) (fun u hu k h1 h2 => y u hu k (by omega) h2), v D⟩
  · rw [hb u hu, y u hu 3 (by decide) (by decide)]; exact e1 u hu
  · rw [sN_ext 5 hb]; exact e2
  · rw [sN_ext 8 (fun j hj => show tbn d j = tbn c j from congrArg Int32.toNatClampNeg (x j hj))]; exact f
theorem R9.rfl9 {c : xCo} : R9 c c := ⟨fun _ _ => rfl, fun _ _ => ⟨fun _ _ _ => rfl, fun _ => rfl⟩, fun _ _ _ _ => rfl, fun _ _ _ _ => rfl⟩
/-- how a call of the drawn ones ends -/
def DR (K m : Nat) (c : xCo) (r : Int32 × xCo) : Prop := (∃ v, v < 2147483000 ∧ r.1 = nI v ∧ J9 (K + 240) r.2 ∧ GQ m r.2) ∨ (r.1 = -1 ∧ ∃ a b, 1 ≤ a ∧ a ≤ 14 ∧ r.2 = cR c (nI a) b)
theorem a14 {a : Int32} (h : 1 ≤ a ∧ a ≤ 14) : ∃ n, 1 ≤ n ∧ n ≤ 14 ∧ a = nI n := rng (N := 14) (by decide) (fun q => Int32.not_le.mpr q h.1) h.2
theorem dr_of {K m : Nat} {c d : xCo} {r : Int32 × xCo} {p : mOc} (O : OK9 K c d r p) (hp : p.1 = 0 ∨ p.1 = -1) (hg : r.1 = -1 ∨ GQ m r.2) : DR K m c r := by
  rcases O with ⟨o1, o2, ⟨v, hv, ev⟩, -, o4⟩ | ⟨o1, o2, a, b, h, o4, -⟩ | ⟨o1, -⟩ | ⟨o1, -⟩
  · refine Or.inl ⟨v, hv, ev, o4, ?_⟩
    rcases hg with z | z
    · rw [ev] at z; exact absurd z (nI_m1 (by omega))
    · exact z
  · obtain ⟨n, h1, h2, rfl⟩ := a14 h
    exact Or.inr ⟨o2, n, b, h1, h2, o4⟩
  · rw [o1] at hp; exact absurd hp (by decide)
  · rw [o1] at hp; exact absurd hp (by decide)
theorem gq_jn {K m cl us ca ba v : Nat} {c d : xCo} (J : J9 K c) (hm : m < 1000000) (v5 : v < 5) (w6 : wt c v < 6) (hcl : 1 ≤ cl) (a : c.1 4 = nI cl ∧ c.1 5 = nI us ∧ c.1 8 = nI ca ∧ c.1 9 = nI ba)
    (b : cl + us + sN (wt c) 5 = 12 ∧ ca = sN (wt c) 5 + ba ∧ ca ≤ m) (e : (∀ u, u < 5 → c.2.2.1 u 3 = nI (bt c u)) ∧ sN (bt c) 5 = ba) (f : sN (tbn c) 8 = ba) (Q : QQ ca c) (D : ∀ j, j < 8 → DT (c.2.1 j))
    (d4 : d.1 4 = nI (cl - 1)) (d5 : d.1 5 = c.1 5) (d8 : d.1 8 = nI (ca + 1)) (d9 : d.1 9 = c.1 9) (dt : d.2.1 = c.2.1) (W : ∀ u, wt d u = if u = v then wt c v + 1 else wt c u) (B : ∀ u k, 3 ≤ k → k ≠ 4 → d.2.2.1 u k = if u = v ∧ k = 5 + wt c v then nI ca else c.2.2.1 u k) : GQ (m + 1) d := by
  obtain ⟨b1, b2, b3⟩ := b
  obtain ⟨g1, g2, g3⟩ := Q
  have S : sN (wt d) 5 = sN (wt c) 5 + 1 := by
    have h := sN_up (f := wt c) (g := wt d) (k := v) 5 v5 (fun i _ hi => (W i).trans (if_neg hi))
    rw [(W v).trans (if_pos rfl)] at h
    omega
  have B3 : ∀ u, d.2.2.1 u 3 = c.2.2.1 u 3 := fun u => (B u 3 (by decide) (by decide)).trans (if_neg (by omega))
  have old : ∀ u p, p < wt d u → (u = v ∧ p = wt c v ∧ d.2.2.1 u (5 + p) = nI ca) ∨ (p < wt c u ∧ d.2.2.1 u (5 + p) = c.2.2.1 u (5 + p)) := by
    intro u p hp
    by_cases z : u = v ∧ p = wt c v
    · exact Or.inl ⟨z.1, z.2, (B u (5 + p) (by omega) (by omega)).trans (if_pos ⟨z.1, by rw [z.2]⟩)⟩
    · refine Or.inr ⟨?_, (B u (5 + p) (by omega) (by omega)).trans (if_neg (fun q => z ⟨q.1, by omega⟩))⟩
      rw [W u] at hp
      by_cases y : u = v
      · subst y
        rw [if_pos rfl] at hp
        have : ¬ p = wt c u := fun q => z ⟨rfl, q⟩
        omega
      · rw [if_neg y] at hp; exact hp
  refine ⟨cl - 1, us, ca + 1, ba, ⟨d4, d5.trans a.2.1, d8, d9.trans a.2.2.2⟩, ⟨by omega, by omega, by omega⟩, ⟨fun u hu => ?_, ?_⟩, ?_, ⟨fun u hu p hp => ?_, fun u u2 p q hu hu2 hp hq z => ?_, fun u p hu hp => ?_⟩, by rw [dt]; exact D⟩
  · have := e.1 u hu
    unfold bt at this ⊢
    rw [B3]; exact this
  · rw [sN_ext 5 (fun u _ => show bt d u = bt c u from congrArg Int32.toNatClampNeg (B3 u))]; exact e.2
  · rw [sN_ext 8 (fun j _ => show tbn d j = tbn c j by unfold tbn; rw [dt])]; exact f
  · rcases old u p hp with ⟨-, -, h⟩ | ⟨h1, h2⟩
    · exact ⟨ca, by omega, h⟩
    · obtain ⟨g, hg, eg⟩ := g1 u hu p h1
      exact ⟨g, by omega, h2.trans eg⟩
  · rcases old u p hp with ⟨h1, h2, h3⟩ | ⟨h1, h2⟩
    · rcases old u2 q hq with ⟨k1, k2, k3⟩ | ⟨k1, k2⟩
      · exact ⟨h1.trans k1.symm, h2.trans k2.symm⟩
      · obtain ⟨g, hg, eg⟩ := g1 u2 hu2 q k1
        rw [h3, k2, eg] at z
        have := nI_inj (by omega) (by omega) z
        omega
    · rcases old u2 q hq with ⟨k1, k2, k3⟩ | ⟨k1, k2⟩
      · obtain ⟨g, hg, eg⟩ := g1 u hu p h1
        rw [h2, k3, eg] at z
        have := nI_inj (by omega) (by omega) z
        omega
      · rw [h2, k2] at z
        exact g2 u u2 p q hu hu2 h1 k1 z
  · rcases old u (p + 1) hp with ⟨h1, h2, h3⟩ | ⟨h1, h2⟩
    · rcases old u p (by omega) with ⟨k1, k2, k3⟩ | ⟨k1, k2⟩
      · omega
      · obtain ⟨g, hg, eg⟩ := g1 u hu p k1
        rw [h3, k2, eg]
        exact nI_lt hg (by omega)
    · rcases old u p (by omega) with ⟨k1, k2, k3⟩ | ⟨k1, k2⟩
      · subst k1; omega
      · rw [h2, k2]; exact g3 u p hu h1
theorem cS_s {c : xCo} {k : Nat} {x : Int32} : (cS c k x).1 k = x := upd_s
theorem cS_o {c : xCo} {k j : Nat} {x : Int32} (h : j ≠ k) : (cS c k x).1 j = c.1 j := upd_o h
section DRS
variable {K m : Nat} {c : xCo}
theorem dr_tear {j k : Nat} (J : J9 K c) (G : GQ m c) (hj : j < n1 c) (hk : k < 8) : DR K m c (tearS c (nI j) (nI k)) := by
  have n8 := J.1.1.2
  have ok := okT_in J hj
  have hs : ¬ (nI k < 0 ∨ 8 ≤ nI k) := fun q => q.elim (nI_pos (by omega)) (fun q => by have := (nI_leI (a := 8) (by decide) (by omega)).mp q; omega)
  refine dr_of (sim_tear R9.rfl9 J) (Or.inl ?_) (Or.inr ?_)
  · unfold mTear; rw [if_pos ok, if_neg hs]
  · unfold tearS; rw [if_pos ok, if_neg hs]
    exact G.ag J (AG.id.T (by decide))
theorem dr_mend {j k : Nat} (J : J9 K c) (G : GQ m c) (hK : K < 16000000) (hj : j < n1 c) (hk : k < 8) : DR K m c (mendS c (nI j) (nI k)) := by
  have n8 := J.1.1.2
  have ok := okT_in J hj
  have hs : ¬ (nI k < 0 ∨ 8 ≤ nI k) := fun q => q.elim (nI_pos (by omega)) (fun q => by have := (nI_leI (a := 8) (by decide) (by omega)).mp q; omega)
  refine dr_of (sim_mend R9.rfl9 J hK) ?_ ?_
  · unfold mMend; rw [if_pos ok, if_neg hs]
    split
    · exact Or.inr rfl
    · split
      · split
        · exact Or.inl rfl
        · exact Or.inr rfl
      · exact Or.inr rfl
  · unfold mendS; rw [if_pos ok, if_neg hs]
    split
    · exact Or.inl rfl
    · split
      · split
        · exact Or.inr (G.ag J ((AG.id.S (by decide)).T (by decide)))
        · exact Or.inl rfl
      · exact Or.inl rfl
theorem dr_out {j v : Nat} (J : J9 K c) (G : GQ m c) (hK : K < 16000000) (hj : j < n1 c) (hv : v < n2 c) : DR K m c (outS c (nI j) (nI v)) := by
  have ok := okT_in J hj
  have ok2 := okU_in J hv
  refine dr_of (sim_out R9.rfl9 J hK) ?_ ?_
  · unfold mOut; rw [if_pos ok, if_pos ok2]
    split
    · split
      · split
        · exact Or.inl rfl
        · exact Or.inr rfl
      · exact Or.inr rfl
    · exact Or.inr rfl
  · unfold outS; rw [if_pos ok, if_pos ok2]
    split
    · split
      · split
        · exact Or.inr (G.ag J (((AG.id.T (by decide)).U (by decide)).S (by decide)))
        · exact Or.inl rfl
      · exact Or.inl rfl
    · exact Or.inl rfl
theorem dr_heat {j v : Nat} (J : J9 K c) (G : GQ m c) (hK : K < 16000000) (hj : j < n3 c) (hv : v < n2 c) : DR K m c (heatPS c (nI j) (nI v)) := by
  have ok := okG_in J hj
  have ok2 := okU_in J hv
  refine dr_of (sim_heat R9.rfl9 J hK) ?_ ?_
  · unfold mHeat; rw [if_pos ok, if_pos ok2]
    split
    · split
      · exact Or.inl rfl
      · exact Or.inr rfl
    · exact Or.inr rfl
  · unfold heatPS; rw [if_pos ok, if_pos ok2]
    split
    · split
      · exact Or.inr (G.ag J ((AG.id.G).U (by decide)))
      · exact Or.inl rfl
    · exact Or.inl rfl
theorem dr_cold {j : Nat} (J : J9 K c) (G : GQ m c) (hK : K < 16000000) (hj : j < n3 c) : DR K m c (coldS c (nI j)) := by
  have ok := okG_in J hj
  refine dr_of (sim_cold R9.rfl9 J hK) ?_ ?_
  · unfold mCold; rw [if_pos ok]
    split
    · exact Or.inl rfl
    · exact Or.inr rfl
  · unfold coldS; rw [if_pos ok]
    split
    · exact Or.inr (G.ag J ((AG.id.G).U (by decide)))
    · exact Or.inl rfl
theorem dr_gas {j y : Nat} (J : J9 K c) (G : GQ m c) (hK : K < 16000000) (hj : j < n3 c) (h1 : 1 ≤ y) (h2 : y ≤ 12) : DR K m c (gasS c (nI j) (nI y)) := by
  have ok := okG_in J hj
  have y1 : ¬ nI y < 1 := nI_nlt (b := 1) h1 (by omega)
  have y2 : nI y ≤ 12 := nI_le (b := 12) h2 (by decide)
  refine dr_of (sim_gas R9.rfl9 J hK) ?_ ?_
  · unfold mGas; rw [if_pos ok, if_neg (fun q => q.elim y1 (fun q => Int32.not_le.mpr q y2))]
    split
    · exact Or.inl rfl
    · exact Or.inr rfl
  · unfold gasS; rw [if_pos ok, if_neg y1, if_pos y2]
    split
    · exact Or.inr (G.ag J ((AG.id.S (by decide)).G))
    · exact Or.inl rfl
theorem dr_soap {y : Nat} (J : J9 K c) (G : GQ m c) (hK : K < 16000000) (h1 : 1 ≤ y) (h2 : y ≤ 20) : DR K m c (soapS c (nI y)) := by
  have y1 : ¬ nI y < 1 := nI_nlt (b := 1) h1 (by omega)
  have y2 : nI y ≤ 20 := nI_le (b := 20) h2 (by decide)
  refine dr_of (sim_soap R9.rfl9 J hK) ?_ ?_
  · unfold mSoap; rw [if_neg (fun q => q.elim y1 (fun q => Int32.not_le.mpr q y2))]
    split
    · exact Or.inl rfl
    · exact Or.inr rfl
  · unfold soapS; rw [if_neg y1, if_pos y2]
    split
    · exact Or.inr (G.ag J ((AG.id.S (by decide)).S (by decide)))
    · exact Or.inl rfl
theorem dr_heater (J : J9 K c) (G : GQ m c) : DR K m c (addHeaterS c) := by
  refine dr_of (sim_heater R9.rfl9 J) ?_ ?_
  · unfold mHeater
    split
    · exact Or.inr rfl
    · exact Or.inl rfl
  · unfold addHeaterS
    split
    · exact Or.inr (G.ag J (AG.id.S (by decide)))
    · exact Or.inl rfl
theorem dr_tent {z : Nat} (J : J9 K c) (G : GQ m c) (hz : z ≤ 9) : DR K m c (addTentS c (nI z)) := by
  have z1 : ¬ nI z < 0 := nI_pos (by omega)
  have z2 : nI z ≤ 9 := nI_le (b := 9) hz (by decide)
  refine dr_of (sim_tent R9.rfl9 J) ?_ ?_
  · unfold mTent; rw [if_neg (fun q => q.elim z1 (fun q => Int32.not_le.mpr q z2))]
    split
    · exact Or.inr rfl
    · exact Or.inl rfl
  · unfold addTentS; rw [if_neg z1, if_pos z2]
    split
    · exact Or.inl rfl
    · split
      · exact Or.inr (G.ag J ((AG.id.U (by decide)).S (by decide)))
      · exact Or.inl rfl
theorem dr_tub {z : Nat} (J : J9 K c) (G : GQ m c) (h1 : 1 ≤ z) (h3 : z ≤ 3) : DR K m c (addTubS c (nI z)) := by
  have z1 : ¬ (nI z < 1 ∨ 3 < nI z) := fun q => q.elim (nI_nlt (b := 1) h1 (by omega)) (fun q => Int32.not_le.mpr q (nI_le (b := 3) h3 (by decide)))
  refine dr_of (sim_tub R9.rfl9 J) ?_ ?_
  · unfold mTub; rw [if_neg z1]
    split
    · exact Or.inr rfl
    · exact Or.inl rfl
  · unfold addTubS; rw [if_neg z1]
    split
    · exact Or.inl rfl
    · split
      · rename_i q1 q2
        refine Or.inr (G.ag J (AG.S (d := cT c _ 0 _) ?_ (by decide)))
        rw [J.1.1.1] at q2
        have n8 : n1 c < 8 := (nI_ltI (b := 8) (by have := J.1.1.2; omega) (by decide)).mp q2
        have fr := J.2.2.2.2.2.2.1.1 (n1 c) (Nat.le_refl _) n8
        refine ⟨⟨rfl, rfl, rfl, rfl⟩, fun _ _ _ _ _ => rfl, fun i _ => up2_2 (by decide), fun D => dt_T (fun i hi _ => D i hi) (fun _ => ?_)⟩
        show DT (upd (c.2.1 (n1 c)) 0 (nI z))
        refine ⟨fun _ => (upd_o (by decide)).trans (fr 5 (by decide)), z, 0, h3, Nat.zero_le _, upd_s, (upd_o (by decide)).trans (fr 3 (by decide))⟩
      · exact Or.inl rfl
theorem dr_back {j : Nat} (J : J9 K c) (G : GQ m c) (hK : K < 16000000) (hj : j < n1 c) : DR K m c (backS c (nI j)) := by
  have ok := okT_in J hj
  refine dr_of (sim_back R9.rfl9 J hK) ?_ ?_
  · unfold mBack; rw [if_pos ok]
    split
    · exact Or.inl rfl
    · exact Or.inr rfl
  · unfold backS; rw [if_pos ok]
    split
    · refine Or.inr (G.ag J (AG.U (d := cT (cT (cT c _ 3 0) _ 5 0) _ 1 (-1)) (AG.T (d := cT (cT c _ 3 0) _ 5 0) ⟨⟨rfl, rfl, rfl, rfl⟩, fun _ _ _ _ _ => rfl, fun i _ => (up2_2 (by decide)).trans (up2_2 (by decide)), fun D => ?_⟩ (by decide)) (by decide)))
      intro a ha
      show DT (up2 (up2 c.2.1 (nI j).toNatClampNeg 3 0) (nI j).toNatClampNeg 5 0 a)
      by_cases e : a = (nI j).toNatClampNeg
      · subst e
        rw [up2_r, up2_r]
        obtain ⟨z, l, h1, h2, h3, h4⟩ := (D _ ha).2
        exact DT.k5 ⟨z, 0, h1, Nat.zero_le _, (upd_o (by decide)).trans h3, upd_s⟩
      · rw [up2_n e, up2_n e]; exact D a ha
    · exact Or.inl rfl
theorem dr_wash {y : Nat} (J : J9 K c) (G : GQ m c) (hK : K < 16000000) (h1 : 1 ≤ y) (h2 : y ≤ 20) : DR K m c (washS c (nI y)) := by
  have y1 : ¬ nI y < 1 := nI_nlt (b := 1) h1 (by omega)
  have y2 : nI y ≤ 20 := nI_le (b := 20) h2 (by decide)
  refine dr_of (sim_wash R9.rfl9 J hK) ?_ ?_
  · unfold mWash; rw [if_neg (fun q => q.elim y1 (fun q => Int32.not_le.mpr q y2))]
    split
    · exact Or.inr rfl
    · split
      · exact Or.inl rfl
      · exact Or.inr rfl
  · unfold washS; rw [if_neg y1, if_pos y2]
    split
    · exact Or.inl rfl
    · split
      · refine Or.inr ?_
        obtain ⟨cl, us, ca, ba, ⟨a1, a2, a3, a4⟩, ⟨b1, b2, b3⟩, r⟩ := G
        have e : mn (nI y) (c.1 5) = nI (if us < y then us else y) := by rw [a2]; exact mn_n (by omega) (by omega)
        have hle : (if us < y then us else y) ≤ us := by split <;> omega
        rw [e]
        generalize (if us < y then us else y) = w at hle
        show GQ m (cS (cS (cS c 7 (c.1 7 - nI w)) 5 (c.1 5 - nI w)) 4 (c.1 4 + nI w))
        refine ⟨cl + w, us - w, ca, ba, ⟨?_, ?_, ?_, ?_⟩, ⟨?_, b2, b3⟩, r⟩
        · rw [cS_s, a1, nI_add]
        · rw [cS_o (by decide), cS_s, a2]; exact pk_sub hle
        · rw [cS_o (by decide), cS_o (by decide), cS_o (by decide)]; exact a3
        · rw [cS_o (by decide), cS_o (by decide), cS_o (by decide)]; exact a4
        · show cl + w + (us - w) + sN (wt c) 5 = 12
          omega
      · exact Or.inl rfl
theorem dr_join {v : Nat} (J : J9 K c) (G : GQ m c) (hm : m < 1000000) (hK : K < 16000000) (hv : v < n2 c) : DR K (m + 1) c (joinS c (nI v)) := by
  have ok := okU_in J hv
  have v5 : v < 5 := by have := J.1.2.1.2; omega
  refine dr_of (sim_join R9.rfl9 J hK) ?_ ?_
  · unfold mJoin; rw [if_pos ok]
    split
    · exact Or.inr rfl
    · split
      · split
        · exact Or.inr rfl
        · exact Or.inl rfl
      · exact Or.inr rfl
  · unfold joinS; rw [if_pos ok]
    split
    · split
      · split
        · exact Or.inl rfl
        · rename_i q1 q2 q3
          refine Or.inr ?_
          obtain ⟨cl, us, ca, ba, ⟨a1, a2, a3, a4⟩, ⟨b1, b2, b3⟩, ⟨e1, e2⟩, f, ⟨g1, g2, g3⟩, D⟩ := G
          rw [nI_cl (by omega)] at q1 ⊢
          obtain ⟨w1, w2⟩ := J.wtq v5
          rw [w1] at q1
          have w6 : wt c v < 6 := (nI_ltI (b := 6) (by omega) (by decide)).mp q1
          have hcl : 1 ≤ cl := by
            have : ¬ cl = 0 := fun z => q3 (by rw [a1, z]; rfl)
            omega
          rw [w1, nI_cl (by omega), nI_1, a1, a3, nI_1, show nI cl - 1 = nI (cl - 1) from pk_sub (b := 1) hcl]
          show GQ (m + 1) (cS (cU (cU (cS c 4 (nI (cl - 1))) v (5 + wt c v) (nI ca)) v 4 (nI (wt c v + 1))) 8 (nI (ca + 1)))
          refine gq_jn (cl := cl) (us := us) (ca := ca) (ba := ba) (v := v) J hm v5 w6 hcl ⟨a1, a2, a3, a4⟩ ⟨b1, b2, b3⟩ ⟨e1, e2⟩ f ⟨g1, g2, g3⟩ D (by rw [cS_o (by decide)]; show (cS c 4 (nI (cl - 1))).1 4 = _; exact cS_s) (by rw [cS_o (by decide)]; show (cS c 4 (nI (cl - 1))).1 5 = _; exact cS_o (by decide)) cS_s (by rw [cS_o (by decide)]; show (cS c 4 (nI (cl - 1))).1 9 = _; exact cS_o (by decide)) rfl (fun u => ?_) (fun u k h1 h2 => ?_)
          · show (up2 (up2 c.2.2.1 v (5 + wt c v) (nI ca)) v 4 (nI (wt c v + 1)) u 4).toNatClampNeg = _
            by_cases e : u = v
            · subst e; rw [if_pos rfl, up2_s]; exact nI_cl (by omega)
            · rw [if_neg e, up2_n e, up2_n e]; rfl
          · exact up2_2 h2
      · exact Or.inl rfl
    · exact Or.inl rfl
end DRS
