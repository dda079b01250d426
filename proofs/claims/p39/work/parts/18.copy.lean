/-! ===== 18.copy: a store's copy (rows laid by wip/p39/gen/store7.py) ===== -/
/-- the first n tubs, m tents, h heaters are the other's -/
def cpC (c d : xCo) (n m h : Nat) : xCo := (c.1, fun i => if i < n then d.2.1 i else c.2.1 i, fun i => if i < m then d.2.2.1 i else c.2.2.1 i, fun i => if i < h then d.2.2.2 i else c.2.2.2 i)
/-- a store after copying: the other's, but for the refusal -/
def cpS (c d : xCo) : xCo := (fun k => if k < 10 then d.1 k else c.1 k, fun i => if i < 8 then d.2.1 i else c.2.1 i, fun i => if i < 5 then d.2.2.1 i else c.2.2.1 i, fun i => if i < 4 then d.2.2.2 i else c.2.2.2 i)
theorem cpC_T {c d : xCo} {n m h j : Nat} : (cpC c d n m h).2.1 j = if j < n then d.2.1 j else c.2.1 j := rfl
theorem cpC_U {c d : xCo} {n m h j : Nat} : (cpC c d n m h).2.2.1 j = if j < m then d.2.2.1 j else c.2.2.1 j := rfl
theorem cpC_G {c d : xCo} {n m h j : Nat} : (cpC c d n m h).2.2.2 j = if j < h then d.2.2.2 j else c.2.2.2 j := rfl
theorem stoC_eq {E : xE} {b : Nat} {c d : xCo} (h0 : c.1 = d.1) : ∀ o, o < 27 → (∀ t, t < 8 → o = 5 + t → c.2.1 t = d.2.1 t) → (∀ u, u < 5 → o = 13 + 2 * u ∨ o = 14 + 2 * u → c.2.2.1 u = d.2.2.1 u) → (∀ g, g < 4 → o = 23 + g → c.2.2.2 g = d.2.2.2 g) → stoC E b c o = stoC E b d o := by
  refine sto_cases ?_ ?_ ?_ ?_ ?_ (fun t ht h1 _ _ => ?_) (fun u hu _ h2 _ => ?_) (fun u hu _ h2 _ => ?_) (fun g hg _ _ h3 => ?_)
  · intro _ _ _; rw [stoC_0, stoC_0, h0]
  · intro _ _ _; rw [stoC_1, stoC_1, h0]
  · intro _ _ _; rfl
  · intro _ _ _; rfl
  · intro _ _ _; rfl
  · rw [stoC_tub ht, stoC_tub ht, h1 t ht rfl]
  · rw [stoC_tnt hu, stoC_tnt hu, h2 u hu (Or.inl rfl)]
  · rw [stoC_gst hu, stoC_gst hu, h2 u hu (Or.inr rfl)]
  · rw [stoC_htr hg, stoC_htr hg, h3 g hg rfl]
theorem sto_cpT {E : xE} {w : xW} {b n m h : Nat} {c d : xCo} (hn : n < 8) : xset (sto E w b (cpC c d n m h)) (b + 5 + n) (tubE (d.2.1 n)) = sto E w b (cpC c d (n + 1) m h) := by
  rw [Nat.add_assoc]
  refine sto_put (o := 5 + n) (by omega) ?_ (fun j hj h0 => stoC_eq (c := cpC c d (n + 1) m h) (d := cpC c d n m h) rfl j hj (fun t ht e => ?_) (fun _ _ _ => rfl) (fun _ _ _ => rfl))
  · rw [stoC_tub hn, cpC_T, if_pos (by omega)]
  · rw [cpC_T, cpC_T]
    by_cases h1 : t < n
    · rw [if_pos h1, if_pos (by omega)]
    · rw [if_neg h1, if_neg (by omega)]
theorem sto_cpU {E : xE} {w : xW} {b n m h : Nat} {c d : xCo} (hm : m < 5) : xset (xset (sto E w b (cpC c d n m h)) (b + 13 + 2 * m) (tntE (b + 14 + 2 * m) (d.2.2.1 m))) (b + 14 + 2 * m) (gstE E (d.2.2.1 m)) = sto E w b (cpC c d n (m + 1) h) := by
  refine Prod.ext ?_ rfl
  funext q
  by_cases h1 : q = b + 14 + 2 * m
  · subst h1
    show (xset _ _ _).1 _ = _
    rw [xset_s, sto_gV hm, cpC_U, if_pos (by omega)]
  · rw [xset_o h1]
    by_cases h2 : q = b + 13 + 2 * m
    · subst h2
      rw [xset_s, sto_gU hm, cpC_U, if_pos (by omega)]
    · rw [xset_o h2]
      by_cases h3 : b ≤ q ∧ q < b + 27
      · obtain ⟨o, ho, rfl⟩ : ∃ o, o < 27 ∧ q = b + o := ⟨q - b, by omega, by omega⟩
        rw [sto_at ho, sto_at ho]
        refine congrArg some (stoC_eq (c := cpC c d n m h) (d := cpC c d n (m + 1) h) rfl o ho (fun _ _ _ => rfl) (fun u hu e => ?_) (fun _ _ _ => rfl))
        rw [cpC_U, cpC_U]
        have : u ≠ m := by rintro rfl; omega
        by_cases h4 : u < m
        · rw [if_pos h4, if_pos (by omega)]
        · rw [if_neg h4, if_neg (by omega)]
      · rw [sto_out (by omega), sto_out (by omega)]
theorem sto_cpG {E : xE} {w : xW} {b n m h : Nat} {c d : xCo} (hh : h < 4) : xset (sto E w b (cpC c d n m h)) (b + 23 + h) (htrE (d.2.2.2 h)) = sto E w b (cpC c d n m (h + 1)) := by
  rw [Nat.add_assoc]
  refine sto_put (o := 23 + h) (by omega) ?_ (fun j hj h0 => stoC_eq (c := cpC c d n m (h + 1)) (d := cpC c d n m h) rfl j hj (fun _ _ _ => rfl) (fun _ _ _ => rfl) (fun t ht e => ?_))
  · rw [stoC_htr hh, cpC_G, if_pos (by omega)]
  · rw [cpC_G, cpC_G]
    by_cases h1 : t < h
    · rw [if_pos h1, if_pos (by omega)]
    · rw [if_neg h1, if_neg (by omega)]
theorem cpC_0 {c d : xCo} : cpC c d 0 0 0 = c := by
  unfold cpC
  refine Prod.ext rfl (Prod.ext ?_ (Prod.ext ?_ ?_)) <;> funext i <;> simp
/-- a store elsewhere: its cells are not touched -/
def hasS (E : xE) (w : xW) (a : Nat) (d : xCo) : Prop := ∀ o, o < 27 → w.1 (a + o) = some (stoC E a d o)
theorem hasS_sto {E : xE} {w : xW} {a b : Nat} {c d : xCo} (h : hasS E w a d) (hab : a + 27 ≤ b ∨ b + 27 ≤ a) : hasS E (sto E w b c) a d := fun o ho => (sto_out (by omega)).trans (h o ho)
theorem hasS.eq {E : xE} {w : xW} {a : Nat} {d : xCo} (h : hasS E w a d) : sto E w a d = w := sto_id h
theorem hasS_self {E : xE} {w : xW} {a : Nat} {d : xCo} : hasS E (sto E w a d) a d := fun o ho => sto_at ho
theorem sto_swap {E : xE} {w : xW} {a b : Nat} {c d : xCo} (hab : a + 27 ≤ b ∨ b + 27 ≤ a) : sto E (sto E w a c) b d = sto E (sto E w b d) a c := by
  refine Prod.ext ?_ rfl
  funext q
  by_cases h1 : a ≤ q ∧ q < a + 27
  · obtain ⟨o, ho, rfl⟩ : ∃ o, o < 27 ∧ q = a + o := ⟨q - a, by omega, by omega⟩
    rw [sto_at ho, sto_out (by omega), sto_at ho]
  · rw [sto_out (w := sto E w b d) (by omega)]
    by_cases h2 : b ≤ q ∧ q < b + 27
    · obtain ⟨o, ho, rfl⟩ : ∃ o, o < 27 ∧ q = b + o := ⟨q - b, by omega, by omega⟩
      rw [sto_at ho, sto_at ho]
    · rw [sto_out (by omega), sto_out (by omega), sto_out (by omega)]
def scS (c d : xCo) : Nat → xCo
  | 0 => c
  | n + 1 => cS (scS c d n) ([1, 2, 3, 0, 4, 5, 8, 9, 6, 7].getD n 0) (d.1 ([1, 2, 3, 0, 4, 5, 8, 9, 6, 7].getD n 0))
theorem scS_10 {c d : xCo} : scS (cpC c d 8 5 4) d 10 = cpS c d := by
  refine Prod.ext ?_ rfl
  funext k
  show upd (upd (upd (upd (upd (upd (upd (upd (upd (upd c.1 1 (d.1 1)) 2 (d.1 2)) 3 (d.1 3)) 0 (d.1 0)) 4 (d.1 4)) 5 (d.1 5)) 8 (d.1 8)) 9 (d.1 9)) 6 (d.1 6)) 7 (d.1 7) k = if k < 10 then d.1 k else c.1 k
  by_cases h : k < 10
  · rw [if_pos h]
    have : k = 0 ∨ k = 1 ∨ k = 2 ∨ k = 3 ∨ k = 4 ∨ k = 5 ∨ k = 6 ∨ k = 7 ∨ k = 8 ∨ k = 9 := by omega
    rcases this with rfl | rfl | rfl | rfl | rfl | rfl | rfl | rfl | rfl | rfl <;> rfl
  · rw [if_neg h, upd_o (by omega), upd_o (by omega), upd_o (by omega), upd_o (by omega), upd_o (by omega), upd_o (by omega), upd_o (by omega), upd_o (by omega), upd_o (by omega), upd_o (by omega)]
theorem hasS.at0 {E : xE} {w : xW} {a : Nat} {d : xCo} (h : hasS E w a d) : w.1 a = some (storE a d.1) := h 0 (by decide)
theorem hasS.at2 {E : xE} {w : xW} {a : Nat} {d : xCo} (h : hasS E w a d) : w.1 (a + 2) = some (refE (E.1.2 2) 8 (a + 5) 1) := h 2 (by decide)
theorem hasS.at3 {E : xE} {w : xW} {a : Nat} {d : xCo} (h : hasS E w a d) : w.1 (a + 3) = some (refE (E.1.2 3) 5 (a + 13) 2) := h 3 (by decide)
theorem hasS.at4 {E : xE} {w : xW} {a : Nat} {d : xCo} (h : hasS E w a d) : w.1 (a + 4) = some (refE (E.1.2 4) 4 (a + 23) 1) := h 4 (by decide)
theorem hasS.atT {E : xE} {w : xW} {a t : Nat} {d : xCo} (h : hasS E w a d) (ht : t < 8) : w.1 (a + 5 + t) = some (tubE (d.2.1 t)) := by rw [Nat.add_assoc, h _ (by omega), stoC_tub ht]
theorem hasS.atU {E : xE} {w : xW} {a u : Nat} {d : xCo} (h : hasS E w a d) (ht : u < 5) : w.1 (a + 13 + 2 * u) = some (tntE (a + 14 + 2 * u) (d.2.2.1 u)) := by rw [Nat.add_assoc, h _ (by omega), stoC_tnt ht]
theorem hasS.atV {E : xE} {w : xW} {a u : Nat} {d : xCo} (h : hasS E w a d) (ht : u < 5) : w.1 (a + 14 + 2 * u) = some (gstE E (d.2.2.1 u)) := by rw [Nat.add_assoc, h _ (by omega), stoC_gst ht]
theorem hasS.atG {E : xE} {w : xW} {a g : Nat} {d : xCo} (h : hasS E w a d) (ht : g < 4) : w.1 (a + 23 + g) = some (htrE (d.2.2.2 g)) := by rw [Nat.add_assoc, h _ (by omega), stoC_htr ht]
set_option maxRecDepth 100000 in
set_option maxHeartbeats 4000000 in
theorem lp_X5_cpE {E : xE} {Po : xPo} {w w0 : xW} {a b : Nat} {c d : xCo} (hd : hasS E w a d) (hab : a + 27 ≤ b ∨ b + 27 ≤ a) (hp : Po (.inl none) (sto E w b (cpS c d))) {o : Option Value} : WF M_X5_copyFrom E Po w0 85 [some (.ref b), some (.ref a), o] [] (sto E w b (cpC c d 8 5 4)) 0 0 := by
  refine r_aload_n (q := 86) dX5_copyFrom_85 rfl rfl rfl ?_
  refine r_aload_n (q := 87) dX5_copyFrom_86 rfl rfl rfl ?_
  refine r_getfield (q := 90) dX5_copyFrom_87 f_X5_copyFrom_34 ((hasS_sto hd hab).at0) (by rfl) rfl ?_
  refine r_putfield (q := 93) dX5_copyFrom_90 f_X5_copyFrom_34 sto_g0 rfl rfl (Nat.le_of_ble_eq_true rfl) rfl ?_
  refine WF.cw ((sto_p0 (c := scS (cpC c d 8 5 4) d 0) (k := 1) (by decide) : _ = sto E w b (scS (cpC c d 8 5 4) d 1))) ?_
  refine r_aload_n (q := 94) dX5_copyFrom_93 rfl rfl rfl ?_
  refine r_aload_n (q := 95) dX5_copyFrom_94 rfl rfl rfl ?_
  refine r_getfield (q := 98) dX5_copyFrom_95 f_X5_copyFrom_38 ((hasS_sto hd hab).at0) (by rfl) rfl ?_
  refine r_putfield (q := 101) dX5_copyFrom_98 f_X5_copyFrom_38 sto_g0 rfl rfl (Nat.le_of_ble_eq_true rfl) rfl ?_
  refine WF.cw ((sto_p0 (c := scS (cpC c d 8 5 4) d 1) (k := 2) (by decide) : _ = sto E w b (scS (cpC c d 8 5 4) d 2))) ?_
  refine r_aload_n (q := 102) dX5_copyFrom_101 rfl rfl rfl ?_
  refine r_aload_n (q := 103) dX5_copyFrom_102 rfl rfl rfl ?_
  refine r_getfield (q := 106) dX5_copyFrom_103 f_X5_copyFrom_41 ((hasS_sto hd hab).at0) (by rfl) rfl ?_
  refine r_putfield (q := 109) dX5_copyFrom_106 f_X5_copyFrom_41 sto_g0 rfl rfl (Nat.le_of_ble_eq_true rfl) rfl ?_
  refine WF.cw ((sto_p0 (c := scS (cpC c d 8 5 4) d 2) (k := 3) (by decide) : _ = sto E w b (scS (cpC c d 8 5 4) d 3))) ?_
  refine r_aload_n (q := 110) dX5_copyFrom_109 rfl rfl rfl ?_
  refine r_aload_n (q := 111) dX5_copyFrom_110 rfl rfl rfl ?_
  refine r_getfield (q := 114) dX5_copyFrom_111 f_X5_copyFrom_44 ((hasS_sto hd hab).at0) (by rfl) rfl ?_
  refine r_putfield (q := 117) dX5_copyFrom_114 f_X5_copyFrom_44 sto_g0 rfl rfl (Nat.le_of_ble_eq_true rfl) rfl ?_
  refine WF.cw ((sto_p0 (c := scS (cpC c d 8 5 4) d 3) (k := 0) (by decide) : _ = sto E w b (scS (cpC c d 8 5 4) d 4))) ?_
  refine r_aload_n (q := 118) dX5_copyFrom_117 rfl rfl rfl ?_
  refine r_aload_n (q := 119) dX5_copyFrom_118 rfl rfl rfl ?_
  refine r_getfield (q := 122) dX5_copyFrom_119 f_X5_copyFrom_47 ((hasS_sto hd hab).at0) (by rfl) rfl ?_
  refine r_putfield (q := 125) dX5_copyFrom_122 f_X5_copyFrom_47 sto_g0 rfl rfl (Nat.le_of_ble_eq_true rfl) rfl ?_
  refine WF.cw ((sto_p0 (c := scS (cpC c d 8 5 4) d 4) (k := 4) (by decide) : _ = sto E w b (scS (cpC c d 8 5 4) d 5))) ?_
  refine r_aload_n (q := 126) dX5_copyFrom_125 rfl rfl rfl ?_
  refine r_aload_n (q := 127) dX5_copyFrom_126 rfl rfl rfl ?_
  refine r_getfield (q := 130) dX5_copyFrom_127 f_X5_copyFrom_50 ((hasS_sto hd hab).at0) (by rfl) rfl ?_
  refine r_putfield (q := 133) dX5_copyFrom_130 f_X5_copyFrom_50 sto_g0 rfl rfl (Nat.le_of_ble_eq_true rfl) rfl ?_
  refine WF.cw ((sto_p0 (c := scS (cpC c d 8 5 4) d 5) (k := 5) (by decide) : _ = sto E w b (scS (cpC c d 8 5 4) d 6))) ?_
  refine r_aload_n (q := 134) dX5_copyFrom_133 rfl rfl rfl ?_
  refine r_aload_n (q := 135) dX5_copyFrom_134 rfl rfl rfl ?_
  refine r_getfield (q := 138) dX5_copyFrom_135 f_X5_copyFrom_53 ((hasS_sto hd hab).at0) (by rfl) rfl ?_
  refine r_putfield (q := 141) dX5_copyFrom_138 f_X5_copyFrom_53 sto_g0 rfl rfl (Nat.le_of_ble_eq_true rfl) rfl ?_
  refine WF.cw ((sto_p0 (c := scS (cpC c d 8 5 4) d 6) (k := 8) (by decide) : _ = sto E w b (scS (cpC c d 8 5 4) d 7))) ?_
  refine r_aload_n (q := 142) dX5_copyFrom_141 rfl rfl rfl ?_
  refine r_aload_n (q := 143) dX5_copyFrom_142 rfl rfl rfl ?_
  refine r_getfield (q := 146) dX5_copyFrom_143 f_X5_copyFrom_56 ((hasS_sto hd hab).at0) (by rfl) rfl ?_
  refine r_putfield (q := 149) dX5_copyFrom_146 f_X5_copyFrom_56 sto_g0 rfl rfl (Nat.le_of_ble_eq_true rfl) rfl ?_
  refine WF.cw ((sto_p0 (c := scS (cpC c d 8 5 4) d 7) (k := 9) (by decide) : _ = sto E w b (scS (cpC c d 8 5 4) d 8))) ?_
  refine r_aload_n (q := 150) dX5_copyFrom_149 rfl rfl rfl ?_
  refine r_aload_n (q := 151) dX5_copyFrom_150 rfl rfl rfl ?_
  refine r_getfield (q := 154) dX5_copyFrom_151 f_X5_copyFrom_59 ((hasS_sto hd hab).at0) (by rfl) rfl ?_
  refine r_putfield (q := 157) dX5_copyFrom_154 f_X5_copyFrom_59 sto_g0 rfl rfl (Nat.le_of_ble_eq_true rfl) rfl ?_
  refine WF.cw ((sto_p0 (c := scS (cpC c d 8 5 4) d 8) (k := 6) (by decide) : _ = sto E w b (scS (cpC c d 8 5 4) d 9))) ?_
  refine r_aload_n (q := 158) dX5_copyFrom_157 rfl rfl rfl ?_
  refine r_aload_n (q := 159) dX5_copyFrom_158 rfl rfl rfl ?_
  refine r_getfield (q := 162) dX5_copyFrom_159 f_X5_copyFrom_62 ((hasS_sto hd hab).at0) (by rfl) rfl ?_
  refine r_putfield (q := 165) dX5_copyFrom_162 f_X5_copyFrom_62 sto_g0 rfl rfl (Nat.le_of_ble_eq_true rfl) rfl ?_
  refine WF.cw ((sto_p0 (c := scS (cpC c d 8 5 4) d 9) (k := 7) (by decide) : _ = sto E w b (scS (cpC c d 8 5 4) d 10))) ?_
  refine r_vret dX5_copyFrom_165 rfl (Nat.le_of_ble_eq_true rfl) (Nat.le_of_ble_eq_true rfl) ?_
  rw [← scS_10] at hp; exact hp
set_option maxRecDepth 100000 in
set_option maxHeartbeats 4000000 in
theorem lp_X5_cpG {E : xE} {Po : xPo} {w0 w : xW} {a b : Nat} {c d : xCo} (hd : hasS E w a d) (hab : a + 27 ≤ b ∨ b + 27 ≤ a) (n : Nat) : ∀ (j : Nat) (hj : j ≤ 4) (hp : Po (.inl none) (sto E w b (cpS c d))) (hn : 4 - j < n), WF M_X5_copyFrom E Po w0 59 [some (.ref b), some (.ref a), some (.int (nI j))] [] (sto E w b (cpC c d 8 5 j)) 0 0 := by
  induction n with
  | zero => intro j hj hp hn; exact absurd hn (Nat.not_lt_zero _)
  | succ n ih =>
    intro j hj hp hn
    refine r_iload_n (q := 60) dX5_copyFrom_59 rfl rfl rfl ?_
    refine r_iconst (q := 61) (v := 4) dX5_copyFrom_60 rfl rfl ?_
    refine r_icmp_ge (q := 85) (q2 := 64) dX5_copyFrom_61 (by decide) rfl (fun h61 => ?_) (fun h61 => ?_)
    · have hj8 : 4 ≤ j := (nI_leI (a := 4) (by omega) (by omega)).mp h61
      obtain rfl : j = 4 := by omega
      exact lp_X5_cpE hd hab hp
    · have hj8 : j < 4 := Nat.not_le.mp (fun z => h61 ((nI_leI (a := 4) (by omega) (by omega)).mpr z))
      refine r_aload_n (q := 65) dX5_copyFrom_64 rfl rfl rfl ?_
      refine r_getfield (q := 68) dX5_copyFrom_65 f_X5_copyFrom_30 sto_g0 rfl rfl ?_
      refine r_iload_n (q := 69) dX5_copyFrom_68 rfl rfl rfl ?_
      refine r_aaload (q := 70) (t0 := 4) dX5_copyFrom_69 rfl sto_g4 (vp_in_nI hj8 (by decide)) rfl ?_
      rw [nI_cl (by omega), rf_in hj8, Nat.one_mul]
      refine r_aload_n (q := 71) dX5_copyFrom_70 rfl rfl rfl ?_
      refine r_getfield (q := 74) dX5_copyFrom_71 f_X5_copyFrom_30 (hasS_sto hd hab).at0 (by rfl) rfl ?_
      refine r_iload_n (q := 75) dX5_copyFrom_74 rfl rfl rfl ?_
      refine r_aaload (q := 76) (t0 := 4) dX5_copyFrom_75 rfl (hasS_sto hd hab).at4 (vp_in_nI hj8 (by decide)) rfl ?_
      rw [nI_cl (by omega), rf_in hj8, Nat.one_mul]
      refine r_callV (q := 79) (ci := 4) (As := [_]) dX5_copyFrom_76 s_X5_copyFrom_75 (sto_gG hj8) rfl rfl rfl (Nat.le_of_ble_eq_true rfl) rfl rfl rfl (Nat.le_of_ble_eq_true rfl) (Nat.le_of_ble_eq_true rfl) ⟨(Nat.le_of_ble_eq_true rfl), (Nat.le_of_ble_eq_true rfl)⟩ rfl ?_
      refine ct_X2_copyFrom (sto_gG hj8) ((hasS_sto hd hab).atG hj8) (by omega) ?_
      rw [sto_cpG hj8]
      refine r_iinc (q := 82) dX5_copyFrom_79 rfl (Nat.le_of_ble_eq_true rfl) (xone_of rfl) rfl ?_
      rw [show nI j + Int32.ofInt 1 = nI (j + 1) from nI_1 j]
      refine r_goto (q := 59) dX5_copyFrom_82 (by decide) ?_
      exact ih (j + 1) (by omega) hp (by omega)
set_option maxRecDepth 100000 in
set_option maxHeartbeats 4000000 in
theorem lp_X5_cpU {E : xE} {Po : xPo} {w0 w : xW} {a b : Nat} {c d : xCo} (hd : hasS E w a d) (hab : a + 27 ≤ b ∨ b + 27 ≤ a) (n : Nat) : ∀ (j : Nat) (hj : j ≤ 5) (hp : Po (.inl none) (sto E w b (cpS c d))) (hn : 5 - j < n), WF M_X5_copyFrom E Po w0 31 [some (.ref b), some (.ref a), some (.int (nI j))] [] (sto E w b (cpC c d 8 j 0)) 0 0 := by
  induction n with
  | zero => intro j hj hp hn; exact absurd hn (Nat.not_lt_zero _)
  | succ n ih =>
    intro j hj hp hn
    refine r_iload_n (q := 32) dX5_copyFrom_31 rfl rfl rfl ?_
    refine r_iconst (q := 33) (v := 5) dX5_copyFrom_32 rfl rfl ?_
    refine r_icmp_ge (q := 57) (q2 := 36) dX5_copyFrom_33 (by decide) rfl (fun h33 => ?_) (fun h33 => ?_)
    · have hj8 : 5 ≤ j := (nI_leI (a := 5) (by omega) (by omega)).mp h33
      obtain rfl : j = 5 := by omega
      refine r_iconst (q := 58) (v := 0) dX5_copyFrom_57 rfl rfl ?_
      refine r_istore_n (q := 59) dX5_copyFrom_58 rfl (Nat.le_of_ble_eq_true rfl) (xone_of rfl) rfl ?_
      exact lp_X5_cpG hd hab 5 0 (by omega) hp (by omega)
    · have hj8 : j < 5 := Nat.not_le.mp (fun z => h33 ((nI_leI (a := 5) (by omega) (by omega)).mpr z))
      refine r_aload_n (q := 37) dX5_copyFrom_36 rfl rfl rfl ?_
      refine r_getfield (q := 40) dX5_copyFrom_37 f_X5_copyFrom_24 sto_g0 rfl rfl ?_
      refine r_iload_n (q := 41) dX5_copyFrom_40 rfl rfl rfl ?_
      refine r_aaload (q := 42) (t0 := 3) dX5_copyFrom_41 rfl sto_g3 (vp_in_nI hj8 (by decide)) rfl ?_
      rw [nI_cl (by omega), rf_in hj8]
      refine r_aload_n (q := 43) dX5_copyFrom_42 rfl rfl rfl ?_
      refine r_getfield (q := 46) dX5_copyFrom_43 f_X5_copyFrom_24 (hasS_sto hd hab).at0 (by rfl) rfl ?_
      refine r_iload_n (q := 47) dX5_copyFrom_46 rfl rfl rfl ?_
      refine r_aaload (q := 48) (t0 := 3) dX5_copyFrom_47 rfl (hasS_sto hd hab).at3 (vp_in_nI hj8 (by decide)) rfl ?_
      rw [nI_cl (by omega), rf_in hj8]
      refine r_callV (q := 51) (ci := 8) (As := [_]) dX5_copyFrom_48 s_X5_copyFrom_72 (sto_gU hj8) rfl rfl rfl (Nat.le_of_ble_eq_true rfl) rfl rfl rfl (Nat.le_of_ble_eq_true rfl) (Nat.le_of_ble_eq_true rfl) ⟨(Nat.le_of_ble_eq_true rfl), (Nat.le_of_ble_eq_true rfl)⟩ rfl ?_
      refine ct_X6_copyFrom (sto_gU hj8) (sto_gV hj8) ((hasS_sto hd hab).atU hj8) ((hasS_sto hd hab).atV hj8) (by omega) (by omega) (by omega) (by omega) (by omega) ?_
      rw [sto_cpU hj8]
      refine r_iinc (q := 54) dX5_copyFrom_51 rfl (Nat.le_of_ble_eq_true rfl) (xone_of rfl) rfl ?_
      rw [show nI j + Int32.ofInt 1 = nI (j + 1) from nI_1 j]
      refine r_goto (q := 31) dX5_copyFrom_54 (by decide) ?_
      exact ih (j + 1) (by omega) hp (by omega)
set_option maxRecDepth 100000 in
set_option maxHeartbeats 4000000 in
theorem lp_X5_cpT {E : xE} {Po : xPo} {w0 w : xW} {a b : Nat} {c d : xCo} (hd : hasS E w a d) (hab : a + 27 ≤ b ∨ b + 27 ≤ a) (n : Nat) : ∀ (j : Nat) (hj : j ≤ 8) (hp : Po (.inl none) (sto E w b (cpS c d))) (hn : 8 - j < n), WF M_X5_copyFrom E Po w0 2 [some (.ref b), some (.ref a), some (.int (nI j))] [] (sto E w b (cpC c d j 0 0)) 0 0 := by
  induction n with
  | zero => intro j hj hp hn; exact absurd hn (Nat.not_lt_zero _)
  | succ n ih =>
    intro j hj hp hn
    refine r_iload_n (q := 3) dX5_copyFrom_2 rfl rfl rfl ?_
    refine r_bipush (q := 5) (v := 8) dX5_copyFrom_3 (by decide) rfl ?_
    refine r_icmp_ge (q := 29) (q2 := 8) dX5_copyFrom_5 (by decide) rfl (fun h5 => ?_) (fun h5 => ?_)
    · have hj8 : 8 ≤ j := (nI_leI (a := 8) (by omega) (by omega)).mp h5
      obtain rfl : j = 8 := by omega
      refine r_iconst (q := 30) (v := 0) dX5_copyFrom_29 rfl rfl ?_
      refine r_istore_n (q := 31) dX5_copyFrom_30 rfl (Nat.le_of_ble_eq_true rfl) (xone_of rfl) rfl ?_
      exact lp_X5_cpU hd hab 6 0 (by omega) hp (by omega)
    · have hj8 : j < 8 := Nat.not_le.mp (fun z => h5 ((nI_leI (a := 8) (by omega) (by omega)).mpr z))
      refine r_aload_n (q := 9) dX5_copyFrom_8 rfl rfl rfl ?_
      refine r_getfield (q := 12) dX5_copyFrom_9 f_X5_copyFrom_18 sto_g0 rfl rfl ?_
      refine r_iload_n (q := 13) dX5_copyFrom_12 rfl rfl rfl ?_
      refine r_aaload (q := 14) (t0 := 2) dX5_copyFrom_13 rfl sto_g2 (vp_in_nI hj8 (by decide)) rfl ?_
      rw [nI_cl (by omega), rf_in hj8, Nat.one_mul]
      refine r_aload_n (q := 15) dX5_copyFrom_14 rfl rfl rfl ?_
      refine r_getfield (q := 18) dX5_copyFrom_15 f_X5_copyFrom_18 (hasS_sto hd hab).at0 (by rfl) rfl ?_
      refine r_iload_n (q := 19) dX5_copyFrom_18 rfl rfl rfl ?_
      refine r_aaload (q := 20) (t0 := 2) dX5_copyFrom_19 rfl (hasS_sto hd hab).at2 (vp_in_nI hj8 (by decide)) rfl ?_
      rw [nI_cl (by omega), rf_in hj8, Nat.one_mul]
      refine r_callV (q := 23) (ci := 10) (As := [_]) dX5_copyFrom_20 s_X5_copyFrom_68 (sto_gT hj8) rfl rfl rfl (Nat.le_of_ble_eq_true rfl) rfl rfl rfl (Nat.le_of_ble_eq_true rfl) (Nat.le_of_ble_eq_true rfl) ⟨(Nat.le_of_ble_eq_true rfl), (Nat.le_of_ble_eq_true rfl)⟩ rfl ?_
      refine ct_X8_copyFrom (sto_gT hj8) ((hasS_sto hd hab).atT hj8) (by omega) ?_
      rw [sto_cpT hj8]
      refine r_iinc (q := 26) dX5_copyFrom_23 rfl (Nat.le_of_ble_eq_true rfl) (xone_of rfl) rfl ?_
      rw [show nI j + Int32.ofInt 1 = nI (j + 1) from nI_1 j]
      refine r_goto (q := 2) dX5_copyFrom_26 (by decide) ?_
      exact ih (j + 1) (by omega) hp (by omega)
set_option maxRecDepth 100000 in
set_option maxHeartbeats 4000000 in
theorem ct_X5_copyFrom {E : xE} {Po : xPo} {w : xW} {a b : Nat} {c d : xCo} (hd : hasS E w a d) (hab : a + 27 ≤ b ∨ b + 27 ≤ a) (hp : Po (.inl none) (sto E w b (cpS c d))) : Ct M_X5_copyFrom E [.ref b, .ref a] (sto E w b c) Po := by
  refine Ct.of (ws2 := xAll) (L := [some (.ref b), some (.ref a), none]) (by decide +kernel) rfl rfl (List.forall_mem_cons.mpr ⟨rfl, List.forall_mem_cons.mpr ⟨rfl, fun _ h => absurd h List.not_mem_nil⟩⟩) (Nat.le_of_ble_eq_true rfl) rfl ?_
  refine r_iconst (q := 1) (v := 0) dX5_copyFrom_0 rfl rfl ?_
  refine r_istore_n (q := 2) dX5_copyFrom_1 rfl (Nat.le_of_ble_eq_true rfl) (xone_of rfl) rfl ?_
  have h9 := lp_X5_cpT (w0 := sto E w b c) hd hab (c := c) 9 0 (by omega) hp (by omega)
  rw [cpC_0] at h9
  exact h9
