/-! ===== 63.vals: what the law is told, place by place ===== -/
section DIA
variable {M : xM} {E : xE} {Po : xPo} {w0 w : xW} {pc q q1 q2 : Nat} {L : List (Option Value)} {st : List Value} {k n : Nat} {off off2 i j : Int} {x y a b : Int32}
theorem r_diaLt (hd : decode (mC M) pc = .ok (.ifCond .lt off, 3)) (ht : (pc : Int) + off = (q1 : Int)) (hq : pc + 3 = q2) (hd2 : decode (mC M) q2 = .ok (.iconst i, 1)) (hv2 : Int32.ofInt i = b) (hd3 : decode (mC M) (q2 + 1) = .ok (.goto off2, 3)) (ht3 : ((q2 + 1 : Nat) : Int) + off2 = (q : Int)) (hd1 : decode (mC M) q1 = .ok (.iconst j, 1)) (hv1 : Int32.ofInt j = a) (hq1 : q1 + 1 = q)
    (kk : WF M E Po w0 q L (.int (if x < 0 then a else b) :: st) w k n) : WF M E Po w0 pc L (.int x :: st) w k n := by
  refine r_if_lt hd ht hq (fun h => ?_) (fun h => ?_)
  · rw [if_pos h] at kk; exact r_iconst hd1 hv1 hq1 kk
  · rw [if_neg h] at kk; exact r_iconst hd2 hv2 rfl (r_goto hd3 ht3 kk)
theorem r_diaLe (hd : decode (mC M) pc = .ok (.ifCond .le off, 3)) (ht : (pc : Int) + off = (q1 : Int)) (hq : pc + 3 = q2) (hd2 : decode (mC M) q2 = .ok (.iconst i, 1)) (hv2 : Int32.ofInt i = b) (hd3 : decode (mC M) (q2 + 1) = .ok (.goto off2, 3)) (ht3 : ((q2 + 1 : Nat) : Int) + off2 = (q : Int)) (hd1 : decode (mC M) q1 = .ok (.iconst j, 1)) (hv1 : Int32.ofInt j = a) (hq1 : q1 + 1 = q)
    (kk : WF M E Po w0 q L (.int (if x ≤ 0 then a else b) :: st) w k n) : WF M E Po w0 pc L (.int x :: st) w k n := by
  refine r_if_le hd ht hq (fun h => ?_) (fun h => ?_)
  · rw [if_pos h] at kk; exact r_iconst hd1 hv1 hq1 kk
  · rw [if_neg h] at kk; exact r_iconst hd2 hv2 rfl (r_goto hd3 ht3 kk)
end DIA
section VALS
variable {K k v : Nat} {c : xCo}
theorem at_0 (J : J9 K c) (h : k < n1 c) : lTubOf c (nI k) 0 = c.2.1 k 0 := by
  have n8 := J.1.1.2
  unfold lTubOf; rw [if_pos (okT_in J h), if_neg (by decide), if_pos (by decide), nI_cl (by omega)]; rfl
theorem at_1 (J : J9 K c) (h : k < n1 c) : lTubOf c (nI k) 1 = c.2.1 k 1 := by
  have n8 := J.1.1.2
  unfold lTubOf; rw [if_pos (okT_in J h), if_neg (by decide), if_pos (by decide), nI_cl (by omega)]; rfl
theorem at_2 (J : J9 K c) (h : k < n1 c) : lTubOf c (nI k) 2 = c.2.1 k 2 := by
  have n8 := J.1.1.2
  unfold lTubOf; rw [if_pos (okT_in J h), if_neg (by decide), if_pos (by decide), nI_cl (by omega)]; rfl
theorem at_3 (J : J9 K c) (h : k < n1 c) : lTubOf c (nI k) 3 = c.2.1 k 3 := by
  have n8 := J.1.1.2
  unfold lTubOf; rw [if_pos (okT_in J h), if_neg (by decide), if_pos (by decide), nI_cl (by omega)]; rfl
theorem at_4 (J : J9 K c) (h : k < n1 c) : lTubOf c (nI k) 4 = cmS c k := by
  have n8 := J.1.1.2
  unfold lTubOf; rw [if_pos (okT_in J h), if_neg (by decide), if_pos (by decide), nI_cl (by omega)]; rfl
theorem at_5 (J : J9 K c) (h : k < n1 c) : lTubOf c (nI k) 5 = bb (c.2.1 k 5) := by
  have n8 := J.1.1.2
  unfold lTubOf; rw [if_pos (okT_in J h), if_neg (by decide), if_pos (by decide), nI_cl (by omega)]; rfl
theorem at_6 (J : J9 K c) (h : k < n1 c) : lTubOf c (nI k) 6 = c.2.1 k 6 := by
  have n8 := J.1.1.2
  unfold lTubOf; rw [if_pos (okT_in J h), if_neg (by decide), if_pos (by decide), nI_cl (by omega)]; rfl
theorem at_7 (J : J9 K c) (h : k < n1 c) : lTubOf c (nI k) 7 = -12 := by
  unfold lTubOf; rw [if_pos (okT_in J h), if_neg (by decide), if_neg (by decide)]
theorem au_1 (J : J9 K c) (h : k < n2 c) : lTentOf c (nI k) 1 = c.2.2.1 k 1 := by
  have n8 := J.1.2.1.2
  unfold lTentOf; rw [if_pos (okU_in J h), if_neg (by decide), if_pos (by decide), nI_cl (by omega)]; rfl
theorem au_2 (J : J9 K c) (h : k < n2 c) : lTentOf c (nI k) 2 = c.2.2.1 k 2 := by
  have n8 := J.1.2.1.2
  unfold lTentOf; rw [if_pos (okU_in J h), if_neg (by decide), if_pos (by decide), nI_cl (by omega)]; rfl
theorem au_3 (J : J9 K c) (h : k < n2 c) : lTentOf c (nI k) 3 = c.2.2.1 k 4 := by
  have n8 := J.1.2.1.2
  unfold lTentOf; rw [if_pos (okU_in J h), if_neg (by decide), if_pos (by decide), nI_cl (by omega)]; rfl
theorem au_4 (J : J9 K c) (h : k < n2 c) : lTentOf c (nI k) 4 = c.2.2.1 k 3 := by
  have n8 := J.1.2.1.2
  unfold lTentOf; rw [if_pos (okU_in J h), if_neg (by decide), if_pos (by decide), nI_cl (by omega)]; rfl
theorem ag_0 (J : J9 K c) (h : k < n3 c) : lHeaterOf c (nI k) 0 = c.2.2.2 k 1 := by
  have n8 := J.1.2.2.2
  unfold lHeaterOf; rw [if_pos (okG_in J h), if_pos rfl, nI_cl (by omega)]
theorem ag_1 (J : J9 K c) (h : k < n3 c) : lHeaterOf c (nI k) 1 = c.2.2.2 k 0 := by
  have n8 := J.1.2.2.2
  unfold lHeaterOf; rw [if_pos (okG_in J h), if_neg (by decide), nI_cl (by omega)]
/-- tubs, heaters and tents tell of each other -/
theorem tb_tent (J : J9 K c) (h : k < n1 c) (ht : ¬ c.2.1 k 1 < 0) : ∃ u, u < n2 c ∧ c.2.1 k 1 = nI u ∧ c.2.2.1 u 1 = nI k := by
  have n8 := J.1.1.2
  rcases J.2.2.2.2.2.1.1 k (by omega) with e | e
  · rw [e] at ht; exact absurd (by decide) ht
  · exact e
theorem tn_tub (J : J9 K c) (h : k < n2 c) (ht : ¬ c.2.2.1 k 1 < 0) : ∃ u, u < n1 c ∧ c.2.2.1 k 1 = nI u ∧ c.2.1 u 1 = nI k := by
  have n8 := J.1.2.1.2
  rcases J.2.2.2.2.2.1.2.1 k (by omega) with e | e
  · rw [e] at ht; exact absurd (by decide) ht
  · exact e
theorem tn_heater (J : J9 K c) (h : k < n2 c) (ht : ¬ c.2.2.1 k 2 < 0) : ∃ u, u < n3 c ∧ c.2.2.1 k 2 = nI u ∧ c.2.2.2 u 1 = nI k := by
  have n8 := J.1.2.1.2
  rcases J.2.2.2.2.2.1.2.2.1 k (by omega) with e | e
  · rw [e] at ht; exact absurd (by decide) ht
  · exact e
theorem ht_tent (J : J9 K c) (h : k < n3 c) (ht : ¬ c.2.2.2 k 1 < 0) : ∃ u, u < n2 c ∧ c.2.2.2 k 1 = nI u ∧ c.2.2.1 u 2 = nI k := by
  have n8 := J.1.2.2.2
  rcases J.2.2.2.2.2.1.2.2.2 k (by omega) with e | e
  · rw [e] at ht; exact absurd (by decide) ht
  · exact e
theorem tb_au (J : J9 K c) (h : k < n1 c) (ht : ¬ c.2.1 k 1 < 0) : lTentOf c (c.2.1 k 1) 1 = nI k := by
  obtain ⟨u, hu, e1, e2⟩ := tb_tent J h ht
  rw [e1, au_1 J hu, e2]
theorem hg_au (J : J9 K c) (h : k < n3 c) (ht : ¬ c.2.2.2 k 1 < 0) : lTentOf c (c.2.2.2 k 1) 2 = nI k := by
  obtain ⟨u, hu, e1, e2⟩ := ht_tent J h ht
  rw [e1, au_2 J hu, e2]
def fI (c : xCo) (k : Nat) : Int32 := if c.2.1 k 1 < 0 then 0 else 1
def fT (c : xCo) (k : Nat) : Int32 := bcS (c.2.1 k 2)
def fL (c : xCo) (k : Nat) : Int32 := c.2.1 k 3
def fB (c : xCo) (k : Nat) : Int32 := c.2.1 k 6
def fG (c : xCo) (k : Nat) : Int32 := c.2.2.2 k 0
def fW (c : xCo) (k : Nat) : Int32 := c.2.2.1 k 4
def fD (c : xCo) (k : Nat) : Int32 := c.2.2.1 k 3
theorem tm_b : ∀ b, b < 256 → ∀ j, j < 8 → nI b >>> (nI j &&& 31) &&& 1 = if nI b >>> (nI j &&& 31) &&& 1 = 0 then 0 else 1 := by decide +kernel
theorem tm_s (J : J9 K c) (h : k < n1 c) {j : Nat} (hj : j < 8) : tmS (c.2.1 k 2) j + (c.2.1 k 2 >>> (nI j &&& 31) &&& 1) = tmS (c.2.1 k 2) (j + 1) := by
  have n8 := J.1.1.2
  obtain ⟨b, hb, eb⟩ := (J.2.2.1 k (by omega)).2.1
  show _ = tmS (c.2.1 k 2) j + (if c.2.1 k 2 >>> (nI j &&& 31) &&& 1 = 0 then 0 else 1)
  rw [eb, ← tm_b b hb j hj]
theorem tm_8 (J : J9 K c) (h : k < n1 c) : tmS (c.2.1 k 2) 8 = fT c k := by
  have n8 := J.1.1.2
  obtain ⟨b, hb, eb⟩ := (J.2.2.1 k (by omega)).2.1
  unfold fT
  rw [eb]; exact (bc_tm b hb).1.symm
/-- a tub's water -/
theorem tb_seam (J : J9 K c) (h : k < n1 c) : ¬ (255 : Int32) < c.2.1 k 2 := by
  have n8 := J.1.1.2
  obtain ⟨b, hb, eb⟩ := (J.2.2.1 k (by omega)).2.1
  rw [eb]; exact nI_nlt (b := b) (a := 255) (by omega) (by decide)
theorem tb_l0 (J : J9 K c) (h : k < n1 c) : ¬ c.2.1 k 3 < 0 := by
  have n8 := J.1.1.2
  obtain ⟨b, hb, eb⟩ := (J.2.2.1 k (by omega)).2.2.1
  rw [eb]; exact nI_pos (by omega)
theorem tb_l1 (J : J9 K c) (D : ∀ a, a < 8 → DT (c.2.1 a)) (h : k < n1 c) : ¬ 100 * c.2.1 k 0 < c.2.1 k 3 := by
  have n8 := J.1.1.2
  obtain ⟨-, z, l, hz, hl, e0, e3⟩ := D k (by omega)
  rw [e0, e3, show (100 : Int32) * nI z = nI (100 * z) from pk_mul 100 z]
  exact nI_nlt hl (by omega)
theorem tb_dry (J : J9 K c) (D : ∀ a, a < 8 → DT (c.2.1 a)) (h : k < n1 c) (e : c.2.1 k 3 = 0) : cmS c k = 0 ∧ bb (c.2.1 k 5) = 0 := by
  have n8 := J.1.1.2
  refine ⟨if_pos (by rw [e]; decide), ?_⟩
  rw [(D k (by omega)).1 e]; rfl
theorem tb_wet (J : J9 K c) (h : k < n1 c) (e : ¬ c.2.1 k 3 = 0) : ¬ c.2.1 k 1 < 0 ∧ ¬ cmS c k < 10 ∧ ¬ 60 < cmS c k ∧ ¬ c.2.1 k 3 ≤ 0 := by
  have n8 := J.1.1.2
  obtain ⟨x0, x2, ⟨l, hl, el⟩, ⟨v, v1, v2, ev⟩, x5, x6, x1⟩ := J.2.2.1 k (by omega)
  have hl0 : ¬ c.2.1 k 3 ≤ 0 := by
    rw [el] at e ⊢
    exact nI_nle (Nat.pos_of_ne_zero (fun z => e (by rw [z]; rfl))) (by omega)
  have ec : cmS c k = nI v := (if_neg hl0).trans ev
  refine ⟨?_, by rw [ec]; exact nI_nlt (b := 10) v1 (by omega), by rw [ec]; exact nI_nlt (a := 60) v2 (by decide), hl0⟩
  rcases J.2.2.2.2.2.1.1 k (by omega) with q | ⟨u, hu, q, -⟩
  · exact absurd (x1 q).1 e
  · have n5 := J.1.2.1.2
    rw [q]; exact nI_pos (by omega)
theorem ht_gas (J : J9 K c) (h : k < n3 c) : ¬ c.2.2.2 k 0 < 0 ∧ ¬ 60 < c.2.2.2 k 0 := by
  have n8 := J.1.2.2.2
  obtain ⟨g, hg, eg⟩ := J.2.2.2.2.1 k (by omega)
  rw [eg]
  exact ⟨nI_pos (by omega), nI_nlt (a := 60) hg (by decide)⟩
end VALS
/-- the accounts -/
theorem sums_f {K m : Nat} {c : xCo} (J : J9 K c) (G : GQ m c) (hm : m < 1000000) (hK : K < 16000000) :
    c.1 4 + c.1 5 + (c.1 8 - c.1 9) = 12 ∧ stToldS c 7 + stToldS c 8 + sumS (fW c) (n2 c) = 12 ∧ stToldS c 9 = sumS (fW c) (n2 c) ∧ stToldS c 10 = sumS (fW c) (n2 c) + sumS (fD c) (n2 c) ∧ stToldS c 11 = sumS (fD c) (n2 c) ∧ sumS (fB c) (n1 c) = sumS (fD c) (n2 c) ∧
    stToldS c 2 = sumS (fI c) (n1 c) ∧ stToldS c 3 = sumS (fT c) (n1 c) ∧ stToldS c 14 = sumS (fL c) (n1 c) ∧ stToldS c 6 = sumS (fG c) (n3 c) ∧ ¬ stToldS c 13 < 0 ∧ ¬ stToldS c 12 < 0 := by
  have n8 := J.1.1.2
  have n5 := J.1.2.1.2
  obtain ⟨cl, us, ca, ba, ⟨a1, a2, a3, a4⟩, ⟨b1, b2, b3⟩, ⟨e1, e2⟩, f, Q, D⟩ := G
  have hw : ∀ u, u < n2 c → fW c u = nI (wt c u) := fun u hu => (J.wtq (by omega)).1
  have hd : ∀ u, u < n2 c → fD c u = nI (bt c u) := fun u hu => e1 u (by omega)
  have hb : ∀ j, j < n1 c → fB c j = nI (tbn c j) := fun j hj => by
    obtain ⟨kk, k1, k2⟩ := (J.2.2.1 j (by omega)).2.2.2.2.2.1
    show c.2.1 j 6 = nI (c.2.1 j 6).toNatClampNeg
    rw [k2, nI_cl (by omega)]
  have sw : sN (wt c) (n2 c) = sN (wt c) 5 := (sN_cut 5 n5 (fun u h1 h2 => by
    show (c.2.2.1 u 4).toNatClampNeg = 0
    rw [J.2.2.2.2.2.2.1.2.1 u h1 h2 4 (by decide)]; rfl)).symm
  have sd : sN (bt c) (n2 c) = sN (bt c) 5 := (sN_cut 5 n5 (fun u h1 h2 => by
    show (c.2.2.1 u 3).toNatClampNeg = 0
    rw [J.2.2.2.2.2.2.1.2.1 u h1 h2 3 (by decide)]; rfl)).symm
  have sb : sN (tbn c) (n1 c) = sN (tbn c) 8 := (sN_cut 8 n8 (fun u h1 h2 => by
    show (c.2.1 u 6).toNatClampNeg = 0
    rw [J.2.2.2.2.2.2.1.1 u h1 h2 6 (by decide)]; rfl)).symm
  have SW : sumS (fW c) (n2 c) = nI (sN (wt c) 5) := by rw [sumS_n _ hw, sw]
  have SD : sumS (fD c) (n2 c) = nI ba := by rw [sumS_n _ hd, sd, e2]
  have SB : sumS (fB c) (n1 c) = nI ba := by rw [sumS_n _ hb, sb, f]
  obtain ⟨-, -, -, ⟨s6, h6, q6⟩, ⟨s7, h7, q7⟩⟩ := J.2.1
  refine ⟨?_, ?_, rfl, ?_, ?_, SB.trans SD.symm, ?_, ?_, ?_, rfl, ?_, ?_⟩
  · rw [a1, a2, a3, a4, show nI ca - nI ba = nI (ca - ba) from pk_sub (by omega), nI_add, nI_add, show cl + us + (ca - ba) = 12 by omega]; rfl
  · show c.1 4 + c.1 5 + _ = 12
    rw [a1, a2, SW, nI_add, nI_add, b1]; rfl
  · show c.1 8 = _
    rw [a3, SW, SD, nI_add, b2]
  · show c.1 9 = _
    rw [a4, SD]
  · exact sumS_ext _ (fun i _ => rfl)
  · exact sumS_ext _ (fun i _ => rfl)
  · exact sumS_ext _ (fun i _ => rfl)
  · show ¬ c.1 7 < 0
    rw [q7]; exact nI_pos (by omega)
  · show ¬ c.1 6 < 0
    rw [q6]; exact nI_pos (by omega)
