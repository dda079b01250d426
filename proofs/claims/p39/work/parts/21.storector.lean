/-! ===== 21.storector: a store made (rows laid by wip/p39/gen/make21.py) ===== -/
/-- N cells made from b on -/
def pst (w : xW) (b N : Nat) (f : Nat → va_E) : xW := (fun q => if b ≤ q ∧ q < b + N then some (f (q - b)) else w.1 q, b + N)
theorem pst_at {w : xW} {b N o : Nat} {f : Nat → va_E} (h : o < N) : (pst w b N f).1 (b + o) = some (f o) := by
  show (if b ≤ b + o ∧ b + o < b + N then _ else _) = _
  rw [if_pos ⟨by omega, by omega⟩, show b + o - b = o by omega]
theorem pst_at0 {w : xW} {b N : Nat} {f : Nat → va_E} (h : 0 < N) : (pst w b N f).1 b = some (f 0) := pst_at (o := 0) h
theorem pst_out {w : xW} {b N q : Nat} {f : Nat → va_E} (h : q < b ∨ b + N ≤ q) : (pst w b N f).1 q = w.1 q := if_neg (by omega)
theorem pst_2 {w : xW} {b N : Nat} {f : Nat → va_E} : (pst w b N f).2 = b + N := rfl
theorem pst_ext {w u : xW} {b N : Nat} {f : Nat → va_E} (h2 : u.2 = b + N) (h : ∀ o, o < N → u.1 (b + o) = some (f o)) (ho : ∀ q, q < b ∨ b + N ≤ q → u.1 q = w.1 q) : u = pst w b N f := by
  refine Prod.ext ?_ h2
  funext q
  show _ = (if b ≤ q ∧ q < b + N then _ else _)
  by_cases hq : b ≤ q ∧ q < b + N
  · rw [if_pos hq]
    have := h (q - b) (by omega)
    rwa [show b + (q - b) = q by omega] at this
  · rw [if_neg hq, ho q (by omega)]
theorem va_up_s {α : Type} {f : Nat → α} {k : Nat} {v : α} : va_up f k v k = v := if_pos rfl
theorem va_up_o {α : Type} {f : Nat → α} {k j : Nat} {v : α} (h : j ≠ k) : va_up f k v j = f j := if_neg h
theorem pst_add {w : xW} {b N : Nat} {f : Nat → va_E} {e : va_E} : xadd (pst w b N f) e = pst w b (N + 1) (va_up f N e) := by
  refine pst_ext rfl (fun o ho => ?_) (fun q hq => ?_)
  · by_cases h : o = N
    · subst h
      rw [va_up_s]
      exact xadd_s
    · rw [va_up_o h, xadd_o (by show b + o ≠ b + N; omega), pst_at (by omega)]
  · rw [xadd_o (by show q ≠ b + N; omega), pst_out (by omega)]
theorem pst_set {w : xW} {b N o : Nat} {f : Nat → va_E} {e : va_E} (h : o < N) : xset (pst w b N f) (b + o) e = pst w b N (va_up f o e) := by
  refine pst_ext rfl (fun j hj => ?_) (fun q hq => ?_)
  · by_cases h1 : j = o
    · subst h1; rw [va_up_s]; exact xset_s
    · rw [va_up_o h1, xset_o (by omega), pst_at hj]
  · rw [xset_o (by omega), pst_out hq]
theorem pst_set0 {w : xW} {b N : Nat} {f : Nat → va_E} {e : va_E} (h : 0 < N) : xset (pst w b N f) b e = pst w b N (va_up f 0 e) := pst_set (o := 0) h
theorem pst_congr {w : xW} {b N : Nat} {f g : Nat → va_E} (h : ∀ o, o < N → f o = g o) : pst w b N f = pst w b N g :=
  pst_ext rfl (fun o ho => (pst_at ho).trans (congrArg some (h o ho))) (fun q hq => pst_out hq)
theorem pst_0 {w : xW} {b : Nat} {e : va_E} (h2 : w.2 = b + 1) (h : w.1 b = some e) : w = pst w b 1 (fun _ => e) :=
  pst_ext h2 (fun o ho => by obtain rfl : o = 0 := by omega
                             exact h) (fun q _ => rfl)
def arN (cA : ClassId) (n a d j : Nat) : va_E := .inl (cA, n, .inr (.inr (.inr (.inr (fun k => if k < j then some (a + d * k) else none)))))
theorem arN_0 {cA : ClassId} {n a d : Nat} : (.inl (cA, n, .inr (.inr (.inr (.inr (fun _ => none))))) : va_E) = arN cA n a d 0 := by
  unfold arN
  congr 7
theorem arN_s {cA : ClassId} {n a d j : Nat} : (.inl (cA, n, .inr (.inr (.inr (.inr (va_up (fun k => if k < j then some (a + d * k) else none) j (some (a + d * j))))))) : va_E) = arN cA n a d (j + 1) := by
  unfold arN
  congr 7
  funext k
  unfold va_up
  by_cases h : k = j
  · subst h; rw [if_pos rfl, if_pos (by omega)]
  · rw [if_neg h]
    show (if k < j then some (a + d * k) else none) = _
    by_cases h2 : k < j
    · rw [if_pos h2, if_pos (by omega)]
    · rw [if_neg h2, if_neg (by omega)]
def SF (E : xE) (b jt ju jg o : Nat) : va_E := if o = 2 then arN (E.1.2 2) 8 (b + 5) 1 jt else if o = 3 then arN (E.1.2 3) 5 (b + 13) 2 ju else if o = 4 then arN (E.1.2 4) 4 (b + 23) 1 jg else stoC E b co0 o
theorem SF_t {E : xE} {b jt jt2 ju jg o : Nat} (h : o ≠ 2) : SF E b jt ju jg o = SF E b jt2 ju jg o := by unfold SF; rw [if_neg h, if_neg h]
theorem SF_u {E : xE} {b jt ju ju2 jg o : Nat} (h : o ≠ 3) : SF E b jt ju jg o = SF E b jt ju2 jg o := by unfold SF; rw [if_neg h, if_neg h]
theorem SF_g {E : xE} {b jt ju jg jg2 o : Nat} (h : o ≠ 4) : SF E b jt ju jg o = SF E b jt ju jg2 o := by unfold SF; rw [if_neg h, if_neg h]
theorem SF_5 {E : xE} {b jt ju jg o : Nat} (h : 5 ≤ o) : SF E b jt ju jg o = stoC E b co0 o := by unfold SF; rw [if_neg (by omega), if_neg (by omega), if_neg (by omega)]
theorem SF_end {E : xE} {w : xW} {b : Nat} : pst w b 27 (SF E b 8 5 4) = ((sto E w b co0).1, b + 27) := by
  refine (pst_ext (u := ((sto E w b co0).1, b + 27)) rfl (fun o ho => ?_) (fun q hq => sto_out hq)).symm
  show (sto E w b co0).1 (b + o) = _
  rw [sto_at ho]
  congr 1
  unfold SF
  by_cases h2 : o = 2
  · subst h2; rfl
  · by_cases h3 : o = 3
    · subst h3; rfl
    · by_cases h4 : o = 4
      · subst h4; rfl
      · rw [if_neg h2, if_neg h3, if_neg h4]
theorem SF_0 {E : xE} {b jt ju jg : Nat} : SF E b jt ju jg 0 = storE b co0.1 := rfl
theorem SF_2 {E : xE} {b jt ju jg : Nat} : SF E b jt ju jg 2 = arN (E.1.2 2) 8 (b + 5) 1 jt := rfl
theorem SF_3 {E : xE} {b jt ju jg : Nat} : SF E b jt ju jg 3 = arN (E.1.2 3) 5 (b + 13) 2 ju := rfl
theorem SF_4 {E : xE} {b jt ju jg : Nat} : SF E b jt ju jg 4 = arN (E.1.2 4) 4 (b + 23) 1 jg := rfl
theorem pst_T {E : xE} {w : xW} {b j : Nat} {e : va_E} (hj : j < 8) : pst w b (5 + j + 1) (va_up (va_up (va_up (SF E b j 0 0) (5 + j) e) (5 + j) (tubE tub0)) 2 (arN (E.1.2 2) 8 (b + 5) 1 (j + 1))) = pst w b (5 + (j + 1)) (SF E b (j + 1) 0 0) := by
  refine pst_congr (fun o ho => ?_)
  by_cases h2 : o = 2
  · subst h2; rw [va_up_s]; rfl
  · rw [va_up_o h2]
    by_cases h5 : o = 5 + j
    · subst h5; rw [va_up_s, SF_5 (by omega), stoC_tub hj]; rfl
    · rw [va_up_o h5, va_up_o h5]; exact SF_t h2
theorem pst_U {E : xE} {w : xW} {b j : Nat} {e : va_E} (hj : j < 5) : pst w b (13 + 2 * j + 1 + 1) (va_up (va_up (va_up (va_up (SF E b 8 j 0) (13 + 2 * j) e) (13 + 2 * j + 1) (gstE E tnt0)) (13 + 2 * j) (tntE (b + (13 + 2 * j + 1)) tnt0)) 3 (arN (E.1.2 3) 5 (b + 13) 2 (j + 1))) = pst w b (13 + 2 * (j + 1)) (SF E b 8 (j + 1) 0) := by
  rw [show 13 + 2 * (j + 1) = 13 + 2 * j + 1 + 1 by omega]
  refine pst_congr (fun o ho => ?_)
  by_cases h2 : o = 3
  · subst h2; rw [va_up_s]; rfl
  · rw [va_up_o h2]
    by_cases h5 : o = 13 + 2 * j
    · subst h5; rw [va_up_s, SF_5 (by omega), stoC_tnt hj]
      show tntE (b + (13 + 2 * j + 1)) tnt0 = tntE (b + 14 + 2 * j) tnt0
      rw [show b + (13 + 2 * j + 1) = b + 14 + 2 * j by omega]
    · rw [va_up_o h5]
      by_cases h6 : o = 13 + 2 * j + 1
      · subst h6; rw [va_up_s, SF_5 (by omega), show 13 + 2 * j + 1 = 14 + 2 * j by omega, stoC_gst hj]; rfl
      · rw [va_up_o h6, va_up_o h5]; exact SF_u h2
theorem pst_G {E : xE} {w : xW} {b j : Nat} {e : va_E} (hj : j < 4) : pst w b (23 + j + 1) (va_up (va_up (va_up (SF E b 8 5 j) (23 + j) e) (23 + j) (htrE htr0)) 4 (arN (E.1.2 4) 4 (b + 23) 1 (j + 1))) = pst w b (23 + (j + 1)) (SF E b 8 5 (j + 1)) := by
  refine pst_congr (fun o ho => ?_)
  by_cases h2 : o = 4
  · subst h2; rw [va_up_s]; rfl
  · rw [va_up_o h2]
    by_cases h5 : o = 23 + j
    · subst h5; rw [va_up_s, SF_5 (by omega), stoC_htr hj]; rfl
    · rw [va_up_o h5, va_up_o h5]; exact SF_g h2
theorem WF.kn {M : xM} {E : xE} {Po : xPo} {w0 w : xW} {pc k k2 n n2 : Nat} {L : List (Option Value)} {st : List Value} (h1 : k = k2) (h2 : n = n2) (h : WF M E Po w0 pc L st w k2 n2) : WF M E Po w0 pc L st w k n := by
  subst h1; subst h2; exact h
set_option maxRecDepth 100000 in
set_option maxHeartbeats 4000000 in
theorem lp_X5_iG {E : xE} {Po : xPo} {w0 w : xW} {b : Nat} (n : Nat) : ∀ (j : Nat) (hj : j ≤ 4) (hp : Po (.inl none) ((sto E w b co0).1, b + 27)) (hn : 4 - j < n), WF M_X5_init E Po w0 148 [some (.ref b), some (.int (nI j))] [] (pst w b (23 + j) (SF E b 8 5 j)) (22 + j) (135 + 2 * j) := by
  induction n with
  | zero => intro j hj hp hn; exact absurd hn (Nat.not_lt_zero _)
  | succ n ih =>
    intro j hj hp hn
    refine r_iload_n (q := 149) dX5_init_148 rfl rfl rfl ?_
    refine r_iconst (q := 150) (v := 4) dX5_init_149 rfl rfl ?_
    refine r_icmp_ge (q := 172) (q2 := 153) dX5_init_150 (by decide) rfl (fun h150 => ?_) (fun h150 => ?_)
    · have hj8 : 4 ≤ j := (nI_leI (a := 4) (by omega) (by omega)).mp h150
      obtain rfl : j = 4 := by omega
      refine r_vret dX5_init_172 rfl (Nat.le_of_ble_eq_true rfl) (Nat.le_of_ble_eq_true rfl) ?_
      rw [← SF_end] at hp
      exact hp
    · have hj8 : j < 4 := Nat.not_le.mp (fun z => h150 ((nI_leI (a := 4) (by omega) (by omega)).mpr z))
      refine r_aload_n (q := 154) dX5_init_153 rfl rfl rfl ?_
      refine r_getfield (q := 157) dX5_init_154 f_X5_init_30 ((pst_at0 (by omega)).trans (congrArg some SF_0)) (by rfl) rfl ?_
      refine r_iload_n (q := 158) dX5_init_157 rfl rfl rfl ?_
      refine r_new (q := 161) dX5_init_158 nw_X5_init_28 (by show 22 + j + 1 ≤ 26; omega) (by show 135 + 2 * j + 2 ≤ 143; omega) rfl ?_
      rw [pst_add, pst_2]
      refine r_dup (q := 162) dX5_init_161 rfl rfl ?_
      refine r_callIN (q := 165) (As := []) dX5_init_162 ns_X5_init_67 rfl (Nat.le_of_ble_eq_true rfl) rfl rfl rfl ⟨(by show 22 + j + 1 + 0 ≤ 26; omega), (by show 135 + 2 * j + 2 + 0 ≤ 143; omega)⟩ rfl ?_
      refine ct_X2_init ((pst_at (by omega)).trans (congrArg some va_up_s)) ?_
      show WF _ E Po _ _ _ _ _ _ _
      rw [pst_set (by omega)]
      refine r_aastore (q := 166) (t0 := 4) dX5_init_165 rfl ((pst_at (o := 4) (by omega)).trans (congrArg some ((va_up_o (by omega)).trans ((va_up_o (by omega)).trans SF_4)))) ((pst_at (by omega)).trans (congrArg some va_up_s)) rfl (vp_in_nI hj8 (by decide)) rfl ?_
      rw [nI_cl (by omega), show b + (23 + j) = b + 23 + 1 * j by omega, arN_s, pst_set (by omega), pst_G hj8]
      refine r_iinc (q := 169) dX5_init_166 rfl (Nat.le_of_ble_eq_true rfl) (xone_of rfl) rfl ?_
      rw [show nI j + Int32.ofInt 1 = nI (j + 1) from nI_1 j]
      refine r_goto (q := 148) dX5_init_169 (by decide) ?_
      exact WF.kn (by show _ = _; simp only [show mK M_X8_init = 0 from rfl, show mN M_X8_init = 0 from rfl, show mK M_X2_init = 0 from rfl, show mN M_X2_init = 0 from rfl, show mK M_X6_init = 1 from rfl, show mN M_X6_init = 6 from rfl]; omega) (by show _ = _; simp only [show mK M_X8_init = 0 from rfl, show mN M_X8_init = 0 from rfl, show mK M_X2_init = 0 from rfl, show mN M_X2_init = 0 from rfl, show mK M_X6_init = 1 from rfl, show mN M_X6_init = 6 from rfl]; omega) (ih (j + 1) (by omega) hp (by omega))
set_option maxRecDepth 100000 in
set_option maxHeartbeats 4000000 in
theorem lp_X5_iU {E : xE} {Po : xPo} {w0 w : xW} {b : Nat} (n : Nat) : ∀ (j : Nat) (hj : j ≤ 5) (hp : Po (.inl none) ((sto E w b co0).1, b + 27)) (hn : 5 - j < n), WF M_X5_init E Po w0 122 [some (.ref b), some (.int (nI j))] [] (pst w b (13 + 2 * j) (SF E b 8 j 0)) (12 + 2 * j) (75 + 12 * j) := by
  induction n with
  | zero => intro j hj hp hn; exact absurd hn (Nat.not_lt_zero _)
  | succ n ih =>
    intro j hj hp hn
    refine r_iload_n (q := 123) dX5_init_122 rfl rfl rfl ?_
    refine r_iconst (q := 124) (v := 5) dX5_init_123 rfl rfl ?_
    refine r_icmp_ge (q := 146) (q2 := 127) dX5_init_124 (by decide) rfl (fun h124 => ?_) (fun h124 => ?_)
    · have hj8 : 5 ≤ j := (nI_leI (a := 5) (by omega) (by omega)).mp h124
      obtain rfl : j = 5 := by omega
      refine r_iconst (q := 147) (v := 0) dX5_init_146 rfl rfl ?_
      refine r_istore_n (q := 148) dX5_init_147 rfl (Nat.le_of_ble_eq_true rfl) (xone_of rfl) rfl ?_
      exact lp_X5_iG 5 0 (by omega) hp (by omega)
    · have hj8 : j < 5 := Nat.not_le.mp (fun z => h124 ((nI_leI (a := 5) (by omega) (by omega)).mpr z))
      refine r_aload_n (q := 128) dX5_init_127 rfl rfl rfl ?_
      refine r_getfield (q := 131) dX5_init_128 f_X5_init_24 ((pst_at0 (by omega)).trans (congrArg some SF_0)) (by rfl) rfl ?_
      refine r_iload_n (q := 132) dX5_init_131 rfl rfl rfl ?_
      refine r_new (q := 135) dX5_init_132 nw_X5_init_22 (by show 12 + 2 * j + 1 ≤ 26; omega) (by show 75 + 12 * j + 6 ≤ 143; omega) rfl ?_
      rw [pst_add, pst_2]
      refine r_dup (q := 136) dX5_init_135 rfl rfl ?_
      refine r_callIN (q := 139) (As := []) dX5_init_136 ns_X5_init_66 rfl (Nat.le_of_ble_eq_true rfl) rfl rfl rfl ⟨(by show 12 + 2 * j + 1 + 1 ≤ 26; omega), (by show 75 + 12 * j + 6 + 6 ≤ 143; omega)⟩ rfl ?_
      refine ct_X6_init (by show b + (13 + 2 * j) < b + (13 + 2 * j + 1); omega) ((pst_at (by omega)).trans (congrArg some va_up_s)) ?_
      show WF _ E Po _ _ _ _ _ _ _
      rw [pst_add, pst_2, pst_set (by omega)]
      refine r_aastore (q := 140) (t0 := 3) dX5_init_139 rfl ((pst_at (o := 3) (by omega)).trans (congrArg some ((va_up_o (by omega)).trans ((va_up_o (by omega)).trans ((va_up_o (by omega)).trans SF_3))))) ((pst_at (by omega)).trans (congrArg some va_up_s)) rfl (vp_in_nI hj8 (by decide)) rfl ?_
      rw [nI_cl (by omega), show b + (13 + 2 * j) = b + 13 + 2 * j by omega, arN_s, pst_set (by omega), pst_U hj8]
      refine r_iinc (q := 143) dX5_init_140 rfl (Nat.le_of_ble_eq_true rfl) (xone_of rfl) rfl ?_
      rw [show nI j + Int32.ofInt 1 = nI (j + 1) from nI_1 j]
      refine r_goto (q := 122) dX5_init_143 (by decide) ?_
      exact WF.kn (by show _ = _; simp only [show mK M_X8_init = 0 from rfl, show mN M_X8_init = 0 from rfl, show mK M_X2_init = 0 from rfl, show mN M_X2_init = 0 from rfl, show mK M_X6_init = 1 from rfl, show mN M_X6_init = 6 from rfl]; omega) (by show _ = _; simp only [show mK M_X8_init = 0 from rfl, show mN M_X8_init = 0 from rfl, show mK M_X2_init = 0 from rfl, show mN M_X2_init = 0 from rfl, show mK M_X6_init = 1 from rfl, show mN M_X6_init = 6 from rfl]; omega) (ih (j + 1) (by omega) hp (by omega))
set_option maxRecDepth 100000 in
set_option maxHeartbeats 4000000 in
theorem lp_X5_iT {E : xE} {Po : xPo} {w0 w : xW} {b : Nat} (n : Nat) : ∀ (j : Nat) (hj : j ≤ 8) (hp : Po (.inl none) ((sto E w b co0).1, b + 27)) (hn : 8 - j < n), WF M_X5_init E Po w0 95 [some (.ref b), some (.int (nI j))] [] (pst w b (5 + j) (SF E b j 0 0)) (4 + j) (19 + 7 * j) := by
  induction n with
  | zero => intro j hj hp hn; exact absurd hn (Nat.not_lt_zero _)
  | succ n ih =>
    intro j hj hp hn
    refine r_iload_n (q := 96) dX5_init_95 rfl rfl rfl ?_
    refine r_bipush (q := 98) (v := 8) dX5_init_96 (by decide) rfl ?_
    refine r_icmp_ge (q := 120) (q2 := 101) dX5_init_98 (by decide) rfl (fun h98 => ?_) (fun h98 => ?_)
    · have hj8 : 8 ≤ j := (nI_leI (a := 8) (by omega) (by omega)).mp h98
      obtain rfl : j = 8 := by omega
      refine r_iconst (q := 121) (v := 0) dX5_init_120 rfl rfl ?_
      refine r_istore_n (q := 122) dX5_init_121 rfl (Nat.le_of_ble_eq_true rfl) (xone_of rfl) rfl ?_
      exact lp_X5_iU 6 0 (by omega) hp (by omega)
    · have hj8 : j < 8 := Nat.not_le.mp (fun z => h98 ((nI_leI (a := 8) (by omega) (by omega)).mpr z))
      refine r_aload_n (q := 102) dX5_init_101 rfl rfl rfl ?_
      refine r_getfield (q := 105) dX5_init_102 f_X5_init_18 ((pst_at0 (by omega)).trans (congrArg some SF_0)) (by rfl) rfl ?_
      refine r_iload_n (q := 106) dX5_init_105 rfl rfl rfl ?_
      refine r_new (q := 109) dX5_init_106 nw_X5_init_16 (by show 4 + j + 1 ≤ 26; omega) (by show 19 + 7 * j + 7 ≤ 143; omega) rfl ?_
      rw [pst_add, pst_2]
      refine r_dup (q := 110) dX5_init_109 rfl rfl ?_
      refine r_callIN (q := 113) (As := []) dX5_init_110 ns_X5_init_65 rfl (Nat.le_of_ble_eq_true rfl) rfl rfl rfl ⟨(by show 4 + j + 1 + 0 ≤ 26; omega), (by show 19 + 7 * j + 7 + 0 ≤ 143; omega)⟩ rfl ?_
      refine ct_X8_init ((pst_at (by omega)).trans (congrArg some va_up_s)) ?_
      show WF _ E Po _ _ _ _ _ _ _
      rw [pst_set (by omega)]
      refine r_aastore (q := 114) (t0 := 2) dX5_init_113 rfl ((pst_at (o := 2) (by omega)).trans (congrArg some ((va_up_o (by omega)).trans ((va_up_o (by omega)).trans SF_2)))) ((pst_at (by omega)).trans (congrArg some va_up_s)) rfl (vp_in_nI hj8 (by decide)) rfl ?_
      rw [nI_cl (by omega), show b + (5 + j) = b + 5 + 1 * j by omega, arN_s, pst_set (by omega), pst_T hj8]
      refine r_iinc (q := 117) dX5_init_114 rfl (Nat.le_of_ble_eq_true rfl) (xone_of rfl) rfl ?_
      rw [show nI j + Int32.ofInt 1 = nI (j + 1) from nI_1 j]
      refine r_goto (q := 95) dX5_init_117 (by decide) ?_
      exact WF.kn (by show _ = _; simp only [show mK M_X8_init = 0 from rfl, show mN M_X8_init = 0 from rfl, show mK M_X2_init = 0 from rfl, show mN M_X2_init = 0 from rfl, show mK M_X6_init = 1 from rfl, show mN M_X6_init = 6 from rfl]; omega) (by show _ = _; simp only [show mK M_X8_init = 0 from rfl, show mN M_X8_init = 0 from rfl, show mK M_X2_init = 0 from rfl, show mN M_X2_init = 0 from rfl, show mK M_X6_init = 1 from rfl, show mN M_X6_init = 6 from rfl]; omega) (ih (j + 1) (by omega) hp (by omega))
set_option maxRecDepth 100000 in
set_option maxHeartbeats 4000000 in
theorem ct_X5_init {E : xE} {Po : xPo} {w : xW} {b : Nat} (h2 : w.2 = b + 1) (hw : w.1 b = some (.inr (7, [.null, .null, .null, .null, .int 0, .int 0, .int 0, .int 0, .int 0, .int 0, .int 0, .int 0, .int 0, .int 0]))) (hp : Po (.inl none) ((sto E w b co0).1, b + 27)) : Ct M_X5_init E [.ref b] w Po := by
  refine Ct.of (ws2 := xAll) (L := [some (.ref b), none]) (by decide +kernel) rfl rfl (List.forall_mem_cons.mpr ⟨rfl, fun _ h => absurd h List.not_mem_nil⟩) (Nat.le_of_ble_eq_true rfl) rfl ?_
  rw [pst_0 h2 hw]
  refine r_aload_n (q := 1) dX5_init_0 rfl rfl rfl ?_
  refine r_objInit (q := 4) dX5_init_1 o_X5_init (List.mem_cons_of_mem _ oi1) (List.mem_cons_of_mem _ oi2) (Nat.le_of_ble_eq_true rfl) (Nat.le_of_ble_eq_true rfl) (Nat.le_of_ble_eq_true rfl) rfl ?_
  refine r_aload_n (q := 5) dX5_init_4 rfl rfl rfl ?_
  refine r_new (q := 8) dX5_init_5 nw_X5_init_7 (Nat.le_of_ble_eq_true rfl) (Nat.le_of_ble_eq_true rfl) rfl ?_
  rw [pst_add, pst_2]
  refine r_dup (q := 9) dX5_init_8 rfl rfl ?_
  refine r_callIN (q := 12) (As := []) dX5_init_9 ns_X5_init_9 rfl (Nat.le_of_ble_eq_true rfl) rfl rfl rfl ⟨(Nat.le_of_ble_eq_true rfl), (Nat.le_of_ble_eq_true rfl)⟩ rfl ?_
  refine ct_X4_init (pst_at (by omega)) ?_
  show WF _ E Po _ _ _ _ _ _ _
  rw [pst_set (by omega)]
  refine r_putfieldF (q := 15) dX5_init_12 f_X5_init_10 rfl rfl (pst_at0 (by omega)) rfl rfl (by exact Nat.le_of_ble_eq_true rfl) rfl ?_
  rw [pst_set0 (by omega)]
  refine r_aload_n (q := 16) dX5_init_15 rfl rfl rfl ?_
  refine r_bipush (q := 18) (v := 8) dX5_init_16 (by decide) rfl ?_
  refine r_anewarray (q := 21) (t0 := 2) (N := 8) dX5_init_18 (List.mem_cons_of_mem _ cl_X5_init_16) (by decide) rfl (by decide) (by decide) (Nat.le_of_ble_eq_true rfl) (Nat.le_of_ble_eq_true rfl) (Nat.le_of_ble_eq_true rfl) rfl ?_
  rw [pst_add, pst_2]
  refine r_putfieldF (q := 24) dX5_init_21 f_X5_init_18 rfl rfl (pst_at0 (by omega)) rfl rfl (by exact Nat.le_of_ble_eq_true rfl) rfl ?_
  rw [pst_set0 (by omega)]
  refine r_aload_n (q := 25) dX5_init_24 rfl rfl rfl ?_
  refine r_iconst (q := 26) (v := 5) dX5_init_25 rfl rfl ?_
  refine r_anewarray (q := 29) (t0 := 3) (N := 5) dX5_init_26 (List.mem_cons_of_mem _ cl_X5_init_22) (by decide) rfl (by decide) (by decide) (Nat.le_of_ble_eq_true rfl) (Nat.le_of_ble_eq_true rfl) (Nat.le_of_ble_eq_true rfl) rfl ?_
  rw [pst_add, pst_2]
  refine r_putfieldF (q := 32) dX5_init_29 f_X5_init_24 rfl rfl (pst_at0 (by omega)) rfl rfl (by exact Nat.le_of_ble_eq_true rfl) rfl ?_
  rw [pst_set0 (by omega)]
  refine r_aload_n (q := 33) dX5_init_32 rfl rfl rfl ?_
  refine r_iconst (q := 34) (v := 4) dX5_init_33 rfl rfl ?_
  refine r_anewarray (q := 37) (t0 := 4) (N := 4) dX5_init_34 (List.mem_cons_of_mem _ cl_X5_init_28) (by decide) rfl (by decide) (by decide) (Nat.le_of_ble_eq_true rfl) (Nat.le_of_ble_eq_true rfl) (Nat.le_of_ble_eq_true rfl) rfl ?_
  rw [pst_add, pst_2]
  refine r_putfieldF (q := 40) dX5_init_37 f_X5_init_30 rfl rfl (pst_at0 (by omega)) rfl rfl (by exact Nat.le_of_ble_eq_true rfl) rfl ?_
  rw [pst_set0 (by omega)]
  refine r_aload_n (q := 41) dX5_init_40 rfl rfl rfl ?_
  refine r_iconst (q := 42) (v := 0) dX5_init_41 rfl rfl ?_
  refine r_putfield (q := 45) dX5_init_42 f_X5_init_34 (pst_at0 (by omega)) rfl rfl (by exact Nat.le_of_ble_eq_true rfl) rfl ?_
  rw [pst_set0 (by omega)]
  refine r_aload_n (q := 46) dX5_init_45 rfl rfl rfl ?_
  refine r_iconst (q := 47) (v := 0) dX5_init_46 rfl rfl ?_
  refine r_putfield (q := 50) dX5_init_47 f_X5_init_38 (pst_at0 (by omega)) rfl rfl (by exact Nat.le_of_ble_eq_true rfl) rfl ?_
  rw [pst_set0 (by omega)]
  refine r_aload_n (q := 51) dX5_init_50 rfl rfl rfl ?_
  refine r_iconst (q := 52) (v := 0) dX5_init_51 rfl rfl ?_
  refine r_putfield (q := 55) dX5_init_52 f_X5_init_41 (pst_at0 (by omega)) rfl rfl (by exact Nat.le_of_ble_eq_true rfl) rfl ?_
  rw [pst_set0 (by omega)]
  refine r_aload_n (q := 56) dX5_init_55 rfl rfl rfl ?_
  refine r_iconst (q := 57) (v := 0) dX5_init_56 rfl rfl ?_
  refine r_putfield (q := 60) dX5_init_57 f_X5_init_44 (pst_at0 (by omega)) rfl rfl (by exact Nat.le_of_ble_eq_true rfl) rfl ?_
  rw [pst_set0 (by omega)]
  refine r_aload_n (q := 61) dX5_init_60 rfl rfl rfl ?_
  refine r_bipush (q := 63) (v := 12) dX5_init_61 (by decide) rfl ?_
  refine r_putfield (q := 66) dX5_init_63 f_X5_init_47 (pst_at0 (by omega)) rfl rfl (by exact Nat.le_of_ble_eq_true rfl) rfl ?_
  rw [pst_set0 (by omega)]
  refine r_aload_n (q := 67) dX5_init_66 rfl rfl rfl ?_
  refine r_iconst (q := 68) (v := 0) dX5_init_67 rfl rfl ?_
  refine r_putfield (q := 71) dX5_init_68 f_X5_init_50 (pst_at0 (by omega)) rfl rfl (by exact Nat.le_of_ble_eq_true rfl) rfl ?_
  rw [pst_set0 (by omega)]
  refine r_aload_n (q := 72) dX5_init_71 rfl rfl rfl ?_
  refine r_iconst (q := 73) (v := 0) dX5_init_72 rfl rfl ?_
  refine r_putfield (q := 76) dX5_init_73 f_X5_init_53 (pst_at0 (by omega)) rfl rfl (by exact Nat.le_of_ble_eq_true rfl) rfl ?_
  rw [pst_set0 (by omega)]
  refine r_aload_n (q := 77) dX5_init_76 rfl rfl rfl ?_
  refine r_iconst (q := 78) (v := 0) dX5_init_77 rfl rfl ?_
  refine r_putfield (q := 81) dX5_init_78 f_X5_init_56 (pst_at0 (by omega)) rfl rfl (by exact Nat.le_of_ble_eq_true rfl) rfl ?_
  rw [pst_set0 (by omega)]
  refine r_aload_n (q := 82) dX5_init_81 rfl rfl rfl ?_
  refine r_bipush (q := 84) (v := 10) dX5_init_82 (by decide) rfl ?_
  refine r_putfield (q := 87) dX5_init_84 f_X5_init_59 (pst_at0 (by omega)) rfl rfl (by exact Nat.le_of_ble_eq_true rfl) rfl ?_
  rw [pst_set0 (by omega)]
  refine r_aload_n (q := 88) dX5_init_87 rfl rfl rfl ?_
  refine r_bipush (q := 90) (v := 10) dX5_init_88 (by decide) rfl ?_
  refine r_putfield (q := 93) dX5_init_90 f_X5_init_62 (pst_at0 (by omega)) rfl rfl (by exact Nat.le_of_ble_eq_true rfl) rfl ?_
  rw [pst_set0 (by omega)]
  refine r_iconst (q := 94) (v := 0) dX5_init_93 rfl rfl ?_
  refine r_istore_n (q := 95) dX5_init_94 rfl (Nat.le_of_ble_eq_true rfl) (xone_of rfl) rfl ?_
  have h9 := lp_X5_iT (w := w) (w0 := pst w b 1 (fun _ => .inr (7, [.null, .null, .null, .null, .int 0, .int 0, .int 0, .int 0, .int 0, .int 0, .int 0, .int 0, .int 0, .int 0]))) 9 0 (by omega) hp (by omega)
  refine WF.cw (pst_congr (g := SF E b 0 0 0) (fun o ho => ?_)) ?_
  · have : o = 0 ∨ o = 1 ∨ o = 2 ∨ o = 3 ∨ o = 4 := by omega
    rcases this with rfl | rfl | rfl | rfl | rfl
    · rfl
    · rfl
    · exact arN_0
    · exact arN_0
    · exact arN_0
  · exact WF.kn (by rfl) (by rfl) h9
