/-! ===== 65.digest: the law's digest of what can be asked (rows laid by wip/p39/gen/make65.py) ===== -/
def d1 (c : xCo) : Nat → Nat → Int64 → Int64
  | 0, _, v => v
  | z + 1, q, v => d1 c z (q + 1) (31 * v + (stToldS c (nI q)).toInt64)
def d2 (c : xCo) (j : Nat) : Nat → Nat → Int64 → Int64
  | 0, _, v => v
  | z + 1, q, v => d2 c j z (q + 1) (37 * v + (lTubOf c (nI j) (nI q)).toInt64)
def d3 (c : xCo) : Nat → Nat → Int64 → Int64
  | 0, _, v => v
  | z + 1, j, v => d3 c z (j + 1) (d2 c j 7 0 v)
def d4 (c : xCo) (j : Nat) : Nat → Nat → Int64 → Int64
  | 0, _, v => v
  | z + 1, q, v => d4 c j z (q + 1) (41 * v + (lTentOf c (nI j) (nI q)).toInt64)
def d5 (c : xCo) (j : Nat) : Nat → Nat → Int64 → Int64
  | 0, _, v => v
  | z + 1, q, v => d5 c j z (q + 1) (43 * v + (lWaiting c (nI j) (nI q)).toInt64)
def d6 (c : xCo) : Nat → Nat → Int64 → Int64
  | 0, _, v => v
  | z + 1, j, v => d6 c z (j + 1) (d5 c j (wt c j) 0 (d4 c j 5 0 v))
def d7 (c : xCo) : Nat → Nat → Int64 → Int64
  | 0, _, v => v
  | z + 1, j, v => d7 c z (j + 1) (47 * v + (lHeaterOf c (nI j) 1).toInt64 + (64 * lHeaterOf c (nI j) 0).toInt64)
/-- THE DIGEST -/
def shS (c : xCo) : Int64 := d7 c (n3 c) 0 (d6 c (n2 c) 0 (d3 c (n1 c) 0 (d1 c 15 0 7)))
section SAME
variable {K : Nat} {c e : xCo}
theorem eq_told (J : J9 K c) (h : EQ9 c e) (y : Int32) : stToldS e y = stToldS c y := by
  obtain ⟨e1, e2, e3⟩ := h.n
  have b1 := J.1.1.2
  have b2 := J.1.2.1.2
  have b3 := J.1.2.2.2
  unfold n1 at e1 b1
  unfold n2 at e2 b2
  unfold n3 at e3 b3
  unfold stToldS
  rw [e1, e2, e3, h.1 0 (by decide), h.1 1 (by decide), h.1 2 (by decide), h.1 3 (by decide), h.1 4 (by decide), h.1 5 (by decide), h.1 6 (by decide), h.1 7 (by decide), h.1 8 (by decide), h.1 9 (by decide)]
  rw [sumS_ext (F := fun k => e.2.2.2 k 0) (G := fun k => c.2.2.2 k 0) _ (fun i hi => by rw [h.2.2.2 i (by omega)]),
    sumS_ext (F := fun k => e.2.2.1 k 4) (G := fun k => c.2.2.1 k 4) _ (fun i hi => by rw [h.2.2.1 i (by omega)]),
    sumS_ext (F := fun k => if y = 2 then (if e.2.1 k 1 < 0 then 0 else 1) else if y = 3 then bcS (e.2.1 k 2) else e.2.1 k 3) (G := fun k => if y = 2 then (if c.2.1 k 1 < 0 then 0 else 1) else if y = 3 then bcS (c.2.1 k 2) else c.2.1 k 3) _ (fun i hi => by rw [h.2.1 i (by omega)])]
theorem eq_tubOf (h : EQ9 c e) {j : Nat} (hj : j < 8) (y : Int32) : lTubOf e (nI j) y = lTubOf c (nI j) y := by
  unfold lTubOf okT
  rw [h.1 1 (by decide), nI_cl (by omega), h.2.1 j hj]
theorem eq_tentOf (h : EQ9 c e) {j : Nat} (hj : j < 5) (y : Int32) : lTentOf e (nI j) y = lTentOf c (nI j) y := by
  unfold lTentOf okU
  rw [h.1 2 (by decide), nI_cl (by omega), h.2.2.1 j hj]
theorem eq_waiting (h : EQ9 c e) {j : Nat} (hj : j < 5) (y : Int32) : lWaiting e (nI j) y = lWaiting c (nI j) y := by
  unfold lWaiting okU
  rw [h.1 2 (by decide), nI_cl (by omega), h.2.2.1 j hj]
theorem eq_heaterOf (h : EQ9 c e) {j : Nat} (hj : j < 4) (y : Int32) : lHeaterOf e (nI j) y = lHeaterOf c (nI j) y := by
  unfold lHeaterOf okG
  rw [h.1 3 (by decide), nI_cl (by omega), h.2.2.2 j hj]
theorem eq_d1 (J : J9 K c) (h : EQ9 c e) : ∀ (z q : Nat) (v : Int64), d1 e z q v = d1 c z q v
  | 0, _, _ => rfl
  | z + 1, q, v => by unfold d1; rw [eq_told J h, eq_d1 J h z]
theorem eq_d2 (h : EQ9 c e) {j : Nat} (hj : j < 8) : ∀ (z q : Nat) (v : Int64), d2 e j z q v = d2 c j z q v
  | 0, _, _ => rfl
  | z + 1, q, v => by unfold d2; rw [eq_tubOf h hj, eq_d2 h hj z]
theorem eq_d3 (h : EQ9 c e) : ∀ (z j : Nat) (v : Int64), j + z ≤ 8 → d3 e z j v = d3 c z j v
  | 0, _, _, _ => rfl
  | z + 1, j, v, hz => by unfold d3; rw [eq_d2 h (by omega), eq_d3 h z _ _ (by omega)]
theorem eq_d4 (h : EQ9 c e) {j : Nat} (hj : j < 5) : ∀ (z q : Nat) (v : Int64), d4 e j z q v = d4 c j z q v
  | 0, _, _ => rfl
  | z + 1, q, v => by unfold d4; rw [eq_tentOf h hj, eq_d4 h hj z]
theorem eq_d5 (h : EQ9 c e) {j : Nat} (hj : j < 5) : ∀ (z q : Nat) (v : Int64), d5 e j z q v = d5 c j z q v
  | 0, _, _ => rfl
  | z + 1, q, v => by unfold d5; rw [eq_waiting h hj, eq_d5 h hj z]
theorem eq_d6 (h : EQ9 c e) : ∀ (z j : Nat) (v : Int64), j + z ≤ 5 → d6 e z j v = d6 c z j v
  | 0, _, _, _ => rfl
  | z + 1, j, v, hz => by
    unfold d6
    rw [eq_d4 h (by omega), eq_d5 h (by omega), show wt e j = wt c j by unfold wt; rw [h.2.2.1 j (by omega)], eq_d6 h z _ _ (by omega)]
theorem eq_d7 (h : EQ9 c e) : ∀ (z j : Nat) (v : Int64), j + z ≤ 4 → d7 e z j v = d7 c z j v
  | 0, _, _, _ => rfl
  | z + 1, j, v, hz => by unfold d7; rw [eq_heaterOf h (by omega), eq_heaterOf h (by omega), eq_d7 h z _ _ (by omega)]
theorem eq_sh (J : J9 K c) (h : EQ9 c e) : shS e = shS c := by
  obtain ⟨e1, e2, e3⟩ := h.n
  have b1 := J.1.1.2
  have b2 := J.1.2.1.2
  have b3 := J.1.2.2.2
  unfold shS
  rw [e1, e2, e3, eq_d1 J h, eq_d3 h _ _ _ (by omega), eq_d6 h _ _ _ (by omega), eq_d7 h _ _ _ (by omega)]
end SAME
set_option maxRecDepth 100000 in
set_option maxHeartbeats 4000000 in
theorem su_1 {E : xE} {Po : xPo} {w0 w9 : xW} {x K : Nat} {h : xHi} (J : J9 K (h.1 0)) {r : Int64} (kx : ∀ (u : xW) (k n : Nat) (o4 : Option Value), HI E u x h → FX w9 u x h h → k ≤ 15 → n ≤ 90 → WF M_L_sum E Po w0 31 [some (.ref x), some (.long r), none, some (.int (nI 15)), o4] [] u k n) : ∀ (z q : Nat) (v : Int64) (w : xW) (k n : Nat) (o4 : Option Value) (hz : q + z = 15) (hv : d1 (h.1 0) z q v = r) (H : HI E w x h) (X : FX w9 w x h h) (hk : k ≤ q) (hn : n ≤ 6 * q), WF M_L_sum E Po w0 6 [some (.ref x), some (.long v), none, some (.int (nI q)), o4] [] w k n := by
  intro z
  induction z with
  | zero =>
    intro q v w k n o4 hz hv H X hk hn
    obtain rfl : q = 15 := by omega
    have hr : v = r := hv
    subst hr
    refine r_iload_n (q := 7) dL_sum_6 rfl rfl rfl ?_
    refine r_bipush (q := 9) (v := 15) dL_sum_7 (by decide) rfl ?_
    refine r_icmp_ge (q := 31) (q2 := 12) dL_sum_9 (by decide) rfl (fun _ => ?_) (fun h9 => absurd (show (15 : Int32) ≤ nI 15 by decide) h9)
    exact kx _ (k) (n) _ H X (by omega) (by omega)
  | succ z ih =>
    intro q v w k n o4 hz hv H X hk hn
    refine r_iload_n (q := 7) dL_sum_6 rfl rfl rfl ?_
    refine r_bipush (q := 9) (v := 15) dL_sum_7 (by decide) rfl ?_
    refine r_icmp_ge (q := 31) (q2 := 12) dL_sum_9 (by decide) rfl (fun h9 => absurd h9 (nI_ge (b := 15) (show q < 15 by omega) (by decide))) (fun _ => ?_)
    refine r_ldcL (q := 15) dL_sum_12 c_L_sum_260 rfl ?_
    refine r_lload_n (q := 16) dL_sum_15 rfl rfl rfl ?_
    refine r_lmul (q := 17) dL_sum_16 rfl ?_
    refine r_aload_n (q := 18) dL_sum_17 rfl rfl rfl ?_
    refine r_iload_n (q := 19) dL_sum_18 rfl rfl rfl ?_
    refine r_callV (q := 22) (ci := 11) (k2 := k + 1) (n2 := n + 6) (As := [_]) dL_sum_19 s_L_sum_184 H.1.1 rfl rfl rfl (Nat.le_of_ble_eq_true rfl) rfl rfl rfl (show k + 1 ≤ 300 by omega) (show n + 6 ≤ 2000 by omega) ⟨(show k + 1 ≤ 300 by omega), (show n + 6 ≤ 2000 by omega)⟩ rfl ?_
    refine la_number H J.inC (nI_pos (by omega)) (show nI q ≤ 16 from nI_le (b := 16) (by omega) (by decide)) (show ¬ nI q = 15 from nI_ne (b := 15) (by omega) (by omega) (by decide)) (show ¬ nI q = 16 from nI_ne (b := 16) (by omega) (by omega) (by decide)) ?_
    show WF _ E Po _ _ _ _ _ _ _
    refine r_i2l (q := 23) dL_sum_22 rfl ?_
    refine r_ladd (q := 24) dL_sum_23 rfl ?_
    refine r_lstore_n (q := 25) dL_sum_24 rfl (Nat.le_of_ble_eq_true rfl) (xone_of rfl) rfl ?_
    refine r_iinc (q := 28) dL_sum_25 rfl (Nat.le_of_ble_eq_true rfl) (xone_of rfl) rfl ?_
    rw [show nI q + Int32.ofInt 1 = nI (q + 1) from nI_1 q]
    refine r_goto (q := 6) dL_sum_28 (by decide) ?_
    exact ih (q + 1) _ _ (k + 1) (n + 6) _ (by omega) hv H X (by omega) (by omega)
set_option maxRecDepth 100000 in
set_option maxHeartbeats 4000000 in
theorem su_2 {E : xE} {Po : xPo} {w0 w9 : xW} {x K : Nat} {h : xHi} (J : J9 K (h.1 0)) {r : Int64} {j A B9 : Nat} (hj : j < n1 (h.1 0)) (hA : A + 8 ≤ 250) (hB : B9 + 48 ≤ 1900) (kx : ∀ (u : xW) (k n : Nat), HI E u x h → FX w9 u x h h → k ≤ A + 7 → n ≤ B9 + 42 → WF M_L_sum E Po w0 73 [some (.ref x), some (.long r), none, some (.int (nI j)), some (.int (nI 7))] [] u k n) : ∀ (z q : Nat) (v : Int64) (w : xW) (k n : Nat) (hz : q + z = 7) (hv : d2 (h.1 0) j z q v = r) (H : HI E w x h) (X : FX w9 w x h h) (hk : k ≤ A + q) (hn : n ≤ B9 + 6 * q), WF M_L_sum E Po w0 45 [some (.ref x), some (.long v), none, some (.int (nI j)), some (.int (nI q))] [] w k n := by
  intro z
  induction z with
  | zero =>
    intro q v w k n hz hv H X hk hn
    obtain rfl : q = 7 := by omega
    have hr : v = r := hv
    subst hr
    refine r_iload (q := 47) dL_sum_45 rfl rfl ?_
    refine r_bipush (q := 49) (v := 7) dL_sum_47 (by decide) rfl ?_
    refine r_icmp_ge (q := 73) (q2 := 52) dL_sum_49 (by decide) rfl (fun _ => ?_) (fun h9 => absurd (show (7 : Int32) ≤ nI 7 by decide) h9)
    exact kx _ (k) (n) H X (by omega) (by omega)
  | succ z ih =>
    intro q v w k n hz hv H X hk hn
    refine r_iload (q := 47) dL_sum_45 rfl rfl ?_
    refine r_bipush (q := 49) (v := 7) dL_sum_47 (by decide) rfl ?_
    refine r_icmp_ge (q := 73) (q2 := 52) dL_sum_49 (by decide) rfl (fun h9 => absurd h9 (nI_ge (b := 7) (show q < 7 by omega) (by decide))) (fun _ => ?_)
    refine r_ldcL (q := 55) dL_sum_52 c_L_sum_262 rfl ?_
    refine r_lload_n (q := 56) dL_sum_55 rfl rfl rfl ?_
    refine r_lmul (q := 57) dL_sum_56 rfl ?_
    refine r_aload_n (q := 58) dL_sum_57 rfl rfl rfl ?_
    refine r_iload_n (q := 59) dL_sum_58 rfl rfl rfl ?_
    refine r_iload (q := 61) dL_sum_59 rfl rfl ?_
    refine r_callSH (q := 64) (k2 := k + 1) (n2 := n + 6) (As := [_, _, _]) dL_sum_61 s_L_sum_187 rfl rfl (Nat.le_of_ble_eq_true rfl) rfl rfl rfl (show k + 1 ≤ 300 by omega) (show n + 6 ≤ 2000 by omega) ⟨(show k + 1 ≤ 300 by omega), (show n + 6 ≤ 2000 by omega)⟩ rfl ?_
    refine la_tubOf H (fun u1 H1 F1 => ?_)
    show WF _ E Po _ _ _ _ _ _ _
    have X1 := X.tr F1
    refine r_i2l (q := 65) dL_sum_64 rfl ?_
    refine r_ladd (q := 66) dL_sum_65 rfl ?_
    refine r_lstore_n (q := 67) dL_sum_66 rfl (Nat.le_of_ble_eq_true rfl) (xone_of rfl) rfl ?_
    refine r_iinc (q := 70) dL_sum_67 rfl (Nat.le_of_ble_eq_true rfl) (xone_of rfl) rfl ?_
    rw [show nI q + Int32.ofInt 1 = nI (q + 1) from nI_1 q]
    refine r_goto (q := 45) dL_sum_70 (by decide) ?_
    exact ih (q + 1) _ _ (k + 1) (n + 6) (by omega) hv H1 X1 (by omega) (by omega)
set_option maxRecDepth 100000 in
set_option maxHeartbeats 4000000 in
theorem su_3 {E : xE} {Po : xPo} {w0 w9 : xW} {x K : Nat} {h : xHi} (J : J9 K (h.1 0)) {r : Int64} (kx : ∀ (u : xW) (k n : Nat) (o4 : Option Value), HI E u x h → FX w9 u x h h → k ≤ 80 → n ≤ 480 → WF M_L_sum E Po w0 79 [some (.ref x), some (.long r), none, some (.int (nI (n1 (h.1 0)))), o4] [] u k n) : ∀ (z j : Nat) (v : Int64) (w : xW) (k n : Nat) (o4 : Option Value) (hz : j + z = n1 (h.1 0)) (hv : d3 (h.1 0) z j v = r) (H : HI E w x h) (X : FX w9 w x h h) (hk : k ≤ 15 + 8 * j) (hn : n ≤ 90 + 48 * j), WF M_L_sum E Po w0 33 [some (.ref x), some (.long v), none, some (.int (nI j)), o4] [] w k n := by
  intro z
  induction z with
  | zero =>
    intro j v w k n o4 hz hv H X hk hn
    have n8 := J.1.1.2
    obtain rfl : j = n1 (h.1 0) := by omega
    have hr : v = r := hv
    subst hr
    refine r_iload_n (q := 34) dL_sum_33 rfl rfl rfl ?_
    refine r_aload_n (q := 35) dL_sum_34 rfl rfl rfl ?_
    refine r_iconst (q := 36) (v := 1) dL_sum_35 rfl rfl ?_
    refine r_callV (q := 39) (ci := 11) (k2 := k + 1) (n2 := n + 6) (As := [_]) dL_sum_36 s_L_sum_184 H.1.1 rfl rfl rfl (Nat.le_of_ble_eq_true rfl) rfl rfl rfl (show k + 1 ≤ 300 by omega) (show n + 6 ≤ 2000 by omega) ⟨(show k + 1 ≤ 300 by omega), (show n + 6 ≤ 2000 by omega)⟩ rfl ?_
    refine la_number H J.inC (by decide) (by decide) (by decide) (by decide) ?_
    show WF _ E Po _ _ _ _ _ _ _
    rw [show stToldS (h.1 0) 1 = nI (n1 (h.1 0)) from J.1.1.1]
    refine r_icmp_ge (q := 79) (q2 := 42) dL_sum_39 (by decide) rfl (fun _ => ?_) (fun h9 => absurd (Int32.le_refl _) h9)
    exact kx _ (k + 1) (n + 6) _ H X (by omega) (by omega)
  | succ z ih =>
    intro j v w k n o4 hz hv H X hk hn
    have n8 := J.1.1.2
    refine r_iload_n (q := 34) dL_sum_33 rfl rfl rfl ?_
    refine r_aload_n (q := 35) dL_sum_34 rfl rfl rfl ?_
    refine r_iconst (q := 36) (v := 1) dL_sum_35 rfl rfl ?_
    refine r_callV (q := 39) (ci := 11) (k2 := k + 1) (n2 := n + 6) (As := [_]) dL_sum_36 s_L_sum_184 H.1.1 rfl rfl rfl (Nat.le_of_ble_eq_true rfl) rfl rfl rfl (show k + 1 ≤ 300 by omega) (show n + 6 ≤ 2000 by omega) ⟨(show k + 1 ≤ 300 by omega), (show n + 6 ≤ 2000 by omega)⟩ rfl ?_
    refine la_number H J.inC (by decide) (by decide) (by decide) (by decide) ?_
    show WF _ E Po _ _ _ _ _ _ _
    rw [show stToldS (h.1 0) 1 = nI (n1 (h.1 0)) from J.1.1.1]
    refine r_icmp_ge (q := 79) (q2 := 42) dL_sum_39 (by decide) rfl (fun h9 => absurd h9 (nI_ge (show j < n1 (h.1 0) by omega) (by omega))) (fun _ => ?_)
    refine r_iconst (q := 43) (v := 0) dL_sum_42 rfl rfl ?_
    refine r_istore (q := 45) dL_sum_43 (Nat.le_of_ble_eq_true rfl) (xone_of rfl) rfl ?_
    refine su_2 J (j := j) (A := k + 1) (B9 := n + 6) (by omega) (by omega) (by omega) (fun u k2 n2 H X hk2 hn2 => ?_) 7 0 v _ (k + 1) (n + 6) rfl rfl H X (by omega) (by omega)
    refine r_iinc (q := 76) dL_sum_73 rfl (Nat.le_of_ble_eq_true rfl) (xone_of rfl) rfl ?_
    rw [show nI j + Int32.ofInt 1 = nI (j + 1) from nI_1 j]
    refine r_goto (q := 33) dL_sum_76 (by decide) ?_
    exact ih (j + 1) _ u k2 n2 _ (by omega) hv H X (by omega) (by omega)
set_option maxRecDepth 100000 in
set_option maxHeartbeats 4000000 in
theorem su_4 {E : xE} {Po : xPo} {w0 w9 : xW} {x K : Nat} {h : xHi} (J : J9 K (h.1 0)) {r : Int64} {j A B9 : Nat} (hj : j < n2 (h.1 0)) (hA : A + 8 ≤ 250) (hB : B9 + 48 ≤ 1900) (kx : ∀ (u : xW) (k n : Nat), HI E u x h → FX w9 u x h h → k ≤ A + 5 → n ≤ B9 + 30 → WF M_L_sum E Po w0 120 [some (.ref x), some (.long r), none, some (.int (nI j)), some (.int (nI 5))] [] u k n) : ∀ (z q : Nat) (v : Int64) (w : xW) (k n : Nat) (hz : q + z = 5) (hv : d4 (h.1 0) j z q v = r) (H : HI E w x h) (X : FX w9 w x h h) (hk : k ≤ A + q) (hn : n ≤ B9 + 6 * q), WF M_L_sum E Po w0 93 [some (.ref x), some (.long v), none, some (.int (nI j)), some (.int (nI q))] [] w k n := by
  intro z
  induction z with
  | zero =>
    intro q v w k n hz hv H X hk hn
    obtain rfl : q = 5 := by omega
    have hr : v = r := hv
    subst hr
    refine r_iload (q := 95) dL_sum_93 rfl rfl ?_
    refine r_iconst (q := 96) (v := 5) dL_sum_95 rfl rfl ?_
    refine r_icmp_ge (q := 120) (q2 := 99) dL_sum_96 (by decide) rfl (fun _ => ?_) (fun h9 => absurd (show (5 : Int32) ≤ nI 5 by decide) h9)
    exact kx _ (k) (n) H X (by omega) (by omega)
  | succ z ih =>
    intro q v w k n hz hv H X hk hn
    refine r_iload (q := 95) dL_sum_93 rfl rfl ?_
    refine r_iconst (q := 96) (v := 5) dL_sum_95 rfl rfl ?_
    refine r_icmp_ge (q := 120) (q2 := 99) dL_sum_96 (by decide) rfl (fun h9 => absurd h9 (nI_ge (b := 5) (show q < 5 by omega) (by decide))) (fun _ => ?_)
    refine r_ldcL (q := 102) dL_sum_99 c_L_sum_264 rfl ?_
    refine r_lload_n (q := 103) dL_sum_102 rfl rfl rfl ?_
    refine r_lmul (q := 104) dL_sum_103 rfl ?_
    refine r_aload_n (q := 105) dL_sum_104 rfl rfl rfl ?_
    refine r_iload_n (q := 106) dL_sum_105 rfl rfl rfl ?_
    refine r_iload (q := 108) dL_sum_106 rfl rfl ?_
    refine r_callSH (q := 111) (k2 := k + 1) (n2 := n + 6) (As := [_, _, _]) dL_sum_108 s_L_sum_189 rfl rfl (Nat.le_of_ble_eq_true rfl) rfl rfl rfl (show k + 1 ≤ 300 by omega) (show n + 6 ≤ 2000 by omega) ⟨(show k + 1 ≤ 300 by omega), (show n + 6 ≤ 2000 by omega)⟩ rfl ?_
    refine la_tentOf H (fun u1 H1 F1 => ?_)
    show WF _ E Po _ _ _ _ _ _ _
    have X1 := X.tr F1
    refine r_i2l (q := 112) dL_sum_111 rfl ?_
    refine r_ladd (q := 113) dL_sum_112 rfl ?_
    refine r_lstore_n (q := 114) dL_sum_113 rfl (Nat.le_of_ble_eq_true rfl) (xone_of rfl) rfl ?_
    refine r_iinc (q := 117) dL_sum_114 rfl (Nat.le_of_ble_eq_true rfl) (xone_of rfl) rfl ?_
    rw [show nI q + Int32.ofInt 1 = nI (q + 1) from nI_1 q]
    refine r_goto (q := 93) dL_sum_117 (by decide) ?_
    exact ih (q + 1) _ _ (k + 1) (n + 6) (by omega) hv H1 X1 (by omega) (by omega)
set_option maxRecDepth 100000 in
set_option maxHeartbeats 4000000 in
theorem su_5 {E : xE} {Po : xPo} {w0 w9 : xW} {x K : Nat} {h : xHi} (J : J9 K (h.1 0)) {r : Int64} {j A B9 : Nat} (hj : j < n2 (h.1 0)) (hA : A + 14 ≤ 250) (hB : B9 + 84 ≤ 1900) (kx : ∀ (u : xW) (k n : Nat), HI E u x h → FX w9 u x h h → k ≤ A + 13 → n ≤ B9 + 78 → WF M_L_sum E Po w0 155 [some (.ref x), some (.long r), none, some (.int (nI j)), some (.int (nI (wt (h.1 0) j)))] [] u k n) : ∀ (z q : Nat) (v : Int64) (w : xW) (k n : Nat) (hz : q + z = wt (h.1 0) j) (hv : d5 (h.1 0) j z q v = r) (H : HI E w x h) (X : FX w9 w x h h) (hk : k ≤ A + 2 * q) (hn : n ≤ B9 + 12 * q), WF M_L_sum E Po w0 123 [some (.ref x), some (.long v), none, some (.int (nI j)), some (.int (nI q))] [] w k n := by
  intro z
  induction z with
  | zero =>
    intro q v w k n hz hv H X hk hn
    have n5 := J.1.2.1.2
    obtain ⟨w1, w2⟩ := J.wtq (u := j) (by omega)
    obtain rfl : q = wt (h.1 0) j := by omega
    have hr : v = r := hv
    subst hr
    refine r_iload (q := 125) dL_sum_123 rfl rfl ?_
    refine r_aload_n (q := 126) dL_sum_125 rfl rfl rfl ?_
    refine r_iload_n (q := 127) dL_sum_126 rfl rfl rfl ?_
    refine r_iconst (q := 128) (v := 3) dL_sum_127 rfl rfl ?_
    refine r_callSH (q := 131) (k2 := k + 1) (n2 := n + 6) (As := [_, _, _]) dL_sum_128 s_L_sum_189 rfl rfl (Nat.le_of_ble_eq_true rfl) rfl rfl rfl (show k + 1 ≤ 300 by omega) (show n + 6 ≤ 2000 by omega) ⟨(show k + 1 ≤ 300 by omega), (show n + 6 ≤ 2000 by omega)⟩ rfl ?_
    refine la_tentOf H (fun u1 H1 F1 => ?_)
    show WF _ E Po _ _ _ _ _ _ _
    have X1 := X.tr F1
    rw [(au_3 J hj).trans w1]
    refine r_icmp_ge (q := 155) (q2 := 134) dL_sum_131 (by decide) rfl (fun _ => ?_) (fun h9 => absurd (Int32.le_refl _) h9)
    exact kx _ (k + 1) (n + 6) H1 X1 (by omega) (by omega)
  | succ z ih =>
    intro q v w k n hz hv H X hk hn
    have n5 := J.1.2.1.2
    obtain ⟨w1, w2⟩ := J.wtq (u := j) (by omega)
    refine r_iload (q := 125) dL_sum_123 rfl rfl ?_
    refine r_aload_n (q := 126) dL_sum_125 rfl rfl rfl ?_
    refine r_iload_n (q := 127) dL_sum_126 rfl rfl rfl ?_
    refine r_iconst (q := 128) (v := 3) dL_sum_127 rfl rfl ?_
    refine r_callSH (q := 131) (k2 := k + 1) (n2 := n + 6) (As := [_, _, _]) dL_sum_128 s_L_sum_189 rfl rfl (Nat.le_of_ble_eq_true rfl) rfl rfl rfl (show k + 1 ≤ 300 by omega) (show n + 6 ≤ 2000 by omega) ⟨(show k + 1 ≤ 300 by omega), (show n + 6 ≤ 2000 by omega)⟩ rfl ?_
    refine la_tentOf H (fun u1 H1 F1 => ?_)
    show WF _ E Po _ _ _ _ _ _ _
    have X1 := X.tr F1
    rw [(au_3 J hj).trans w1]
    refine r_icmp_ge (q := 155) (q2 := 134) dL_sum_131 (by decide) rfl (fun h9 => absurd h9 (nI_ge (show q < wt (h.1 0) j by omega) (by omega))) (fun _ => ?_)
    refine r_ldcL (q := 137) dL_sum_134 c_L_sum_266 rfl ?_
    refine r_lload_n (q := 138) dL_sum_137 rfl rfl rfl ?_
    refine r_lmul (q := 139) dL_sum_138 rfl ?_
    refine r_aload_n (q := 140) dL_sum_139 rfl rfl rfl ?_
    refine r_iload_n (q := 141) dL_sum_140 rfl rfl rfl ?_
    refine r_iload (q := 143) dL_sum_141 rfl rfl ?_
    refine r_callSH (q := 146) (k2 := k + 2) (n2 := n + 12) (As := [_, _, _]) dL_sum_143 s_L_sum_205 rfl rfl (Nat.le_of_ble_eq_true rfl) rfl rfl rfl (show k + 2 ≤ 300 by omega) (show n + 12 ≤ 2000 by omega) ⟨(show k + 2 ≤ 300 by omega), (show n + 12 ≤ 2000 by omega)⟩ rfl ?_
    refine la_waiting H1 (fun u2 H2 F2 => ?_)
    show WF _ E Po _ _ _ _ _ _ _
    have X2 := X1.tr F2
    refine r_i2l (q := 147) dL_sum_146 rfl ?_
    refine r_ladd (q := 148) dL_sum_147 rfl ?_
    refine r_lstore_n (q := 149) dL_sum_148 rfl (Nat.le_of_ble_eq_true rfl) (xone_of rfl) rfl ?_
    refine r_iinc (q := 152) dL_sum_149 rfl (Nat.le_of_ble_eq_true rfl) (xone_of rfl) rfl ?_
    rw [show nI q + Int32.ofInt 1 = nI (q + 1) from nI_1 q]
    refine r_goto (q := 123) dL_sum_152 (by decide) ?_
    exact ih (q + 1) _ _ (k + 2) (n + 12) (by omega) hv H2 X2 (by omega) (by omega)
set_option maxRecDepth 100000 in
set_option maxHeartbeats 4000000 in
theorem su_6 {E : xE} {Po : xPo} {w0 w9 : xW} {x K : Nat} {h : xHi} (J : J9 K (h.1 0)) {r : Int64} (kx : ∀ (u : xW) (k n : Nat) (o4 : Option Value), HI E u x h → FX w9 u x h h → k ≤ 185 → n ≤ 1100 → WF M_L_sum E Po w0 161 [some (.ref x), some (.long r), none, some (.int (nI (n2 (h.1 0)))), o4] [] u k n) : ∀ (z j : Nat) (v : Int64) (w : xW) (k n : Nat) (o4 : Option Value) (hz : j + z = n2 (h.1 0)) (hv : d6 (h.1 0) z j v = r) (H : HI E w x h) (X : FX w9 w x h h) (hk : k ≤ 80 + 20 * j) (hn : n ≤ 480 + 120 * j), WF M_L_sum E Po w0 81 [some (.ref x), some (.long v), none, some (.int (nI j)), o4] [] w k n := by
  intro z
  induction z with
  | zero =>
    intro j v w k n o4 hz hv H X hk hn
    have n5 := J.1.2.1.2
    obtain rfl : j = n2 (h.1 0) := by omega
    have hr : v = r := hv
    subst hr
    refine r_iload_n (q := 82) dL_sum_81 rfl rfl rfl ?_
    refine r_aload_n (q := 83) dL_sum_82 rfl rfl rfl ?_
    refine r_iconst (q := 84) (v := 4) dL_sum_83 rfl rfl ?_
    refine r_callV (q := 87) (ci := 11) (k2 := k + 1) (n2 := n + 6) (As := [_]) dL_sum_84 s_L_sum_184 H.1.1 rfl rfl rfl (Nat.le_of_ble_eq_true rfl) rfl rfl rfl (show k + 1 ≤ 300 by omega) (show n + 6 ≤ 2000 by omega) ⟨(show k + 1 ≤ 300 by omega), (show n + 6 ≤ 2000 by omega)⟩ rfl ?_
    refine la_number H J.inC (by decide) (by decide) (by decide) (by decide) ?_
    show WF _ E Po _ _ _ _ _ _ _
    rw [show stToldS (h.1 0) 4 = nI (n2 (h.1 0)) from J.1.2.1.1]
    refine r_icmp_ge (q := 161) (q2 := 90) dL_sum_87 (by decide) rfl (fun _ => ?_) (fun h9 => absurd (Int32.le_refl _) h9)
    exact kx _ (k + 1) (n + 6) _ H X (by omega) (by omega)
  | succ z ih =>
    intro j v w k n o4 hz hv H X hk hn
    have n5 := J.1.2.1.2
    refine r_iload_n (q := 82) dL_sum_81 rfl rfl rfl ?_
    refine r_aload_n (q := 83) dL_sum_82 rfl rfl rfl ?_
    refine r_iconst (q := 84) (v := 4) dL_sum_83 rfl rfl ?_
    refine r_callV (q := 87) (ci := 11) (k2 := k + 1) (n2 := n + 6) (As := [_]) dL_sum_84 s_L_sum_184 H.1.1 rfl rfl rfl (Nat.le_of_ble_eq_true rfl) rfl rfl rfl (show k + 1 ≤ 300 by omega) (show n + 6 ≤ 2000 by omega) ⟨(show k + 1 ≤ 300 by omega), (show n + 6 ≤ 2000 by omega)⟩ rfl ?_
    refine la_number H J.inC (by decide) (by decide) (by decide) (by decide) ?_
    show WF _ E Po _ _ _ _ _ _ _
    rw [show stToldS (h.1 0) 4 = nI (n2 (h.1 0)) from J.1.2.1.1]
    refine r_icmp_ge (q := 161) (q2 := 90) dL_sum_87 (by decide) rfl (fun h9 => absurd h9 (nI_ge (show j < n2 (h.1 0) by omega) (by omega))) (fun _ => ?_)
    refine r_iconst (q := 91) (v := 0) dL_sum_90 rfl rfl ?_
    refine r_istore (q := 93) dL_sum_91 (Nat.le_of_ble_eq_true rfl) (xone_of rfl) rfl ?_
    refine su_4 J (j := j) (A := k + 1) (B9 := n + 6) (by omega) (by omega) (by omega) (fun u k2 n2 H X hk2 hn2 => ?_) 5 0 v _ (k + 1) (n + 6) rfl rfl H X (by omega) (by omega)
    refine r_iconst (q := 121) (v := 0) dL_sum_120 rfl rfl ?_
    refine r_istore (q := 123) dL_sum_121 (Nat.le_of_ble_eq_true rfl) (xone_of rfl) rfl ?_
    refine su_5 J (j := j) (A := k2) (B9 := n2) (by omega) (by omega) (by omega) (fun u k2 n2 H X hk2 hn2 => ?_) (wt (h.1 0) j) 0 _ _ (k2) (n2) (by omega) rfl H X (by omega) (by omega)
    refine r_iinc (q := 158) dL_sum_155 rfl (Nat.le_of_ble_eq_true rfl) (xone_of rfl) rfl ?_
    rw [show nI j + Int32.ofInt 1 = nI (j + 1) from nI_1 j]
    refine r_goto (q := 81) dL_sum_158 (by decide) ?_
    exact ih (j + 1) _ u k2 n2 _ (by omega) hv H X (by omega) (by omega)
set_option maxRecDepth 100000 in
set_option maxHeartbeats 4000000 in
theorem su_7 {E : xE} {Po : xPo} {w0 w9 : xW} {x K : Nat} {h : xHi} (J : J9 K (h.1 0)) {r : Int64} (hp : ∀ u, HI E u x h → FX w9 u x h h → Po (.inl (some (.long r))) u) : ∀ (z j : Nat) (v : Int64) (w : xW) (k n : Nat) (o4 : Option Value) (hz : j + z = n3 (h.1 0)) (hv : d7 (h.1 0) z j v = r) (H : HI E w x h) (X : FX w9 w x h h) (hk : k ≤ 185 + 3 * j) (hn : n ≤ 1100 + 18 * j), WF M_L_sum E Po w0 163 [some (.ref x), some (.long v), none, some (.int (nI j)), o4] [] w k n := by
  intro z
  induction z with
  | zero =>
    intro j v w k n o4 hz hv H X hk hn
    have n4 := J.1.2.2.2
    obtain rfl : j = n3 (h.1 0) := by omega
    have hr : v = r := hv
    subst hr
    refine r_iload_n (q := 164) dL_sum_163 rfl rfl rfl ?_
    refine r_aload_n (q := 165) dL_sum_164 rfl rfl rfl ?_
    refine r_iconst (q := 166) (v := 5) dL_sum_165 rfl rfl ?_
    refine r_callV (q := 169) (ci := 11) (k2 := k + 1) (n2 := n + 6) (As := [_]) dL_sum_166 s_L_sum_184 H.1.1 rfl rfl rfl (Nat.le_of_ble_eq_true rfl) rfl rfl rfl (show k + 1 ≤ 300 by omega) (show n + 6 ≤ 2000 by omega) ⟨(show k + 1 ≤ 300 by omega), (show n + 6 ≤ 2000 by omega)⟩ rfl ?_
    refine la_number H J.inC (by decide) (by decide) (by decide) (by decide) ?_
    show WF _ E Po _ _ _ _ _ _ _
    rw [show stToldS (h.1 0) 5 = nI (n3 (h.1 0)) from J.1.2.2.1]
    refine r_icmp_ge (q := 203) (q2 := 172) dL_sum_169 (by decide) rfl (fun _ => ?_) (fun h9 => absurd (Int32.le_refl _) h9)
    refine r_lload_n (q := 204) dL_sum_203 rfl rfl rfl ?_
    refine r_lret dL_sum_204 rfl (show k + 1 ≤ 300 by omega) (show n + 6 ≤ 2000 by omega) ?_
    exact hp _ H X
  | succ z ih =>
    intro j v w k n o4 hz hv H X hk hn
    have n4 := J.1.2.2.2
    refine r_iload_n (q := 164) dL_sum_163 rfl rfl rfl ?_
    refine r_aload_n (q := 165) dL_sum_164 rfl rfl rfl ?_
    refine r_iconst (q := 166) (v := 5) dL_sum_165 rfl rfl ?_
    refine r_callV (q := 169) (ci := 11) (k2 := k + 1) (n2 := n + 6) (As := [_]) dL_sum_166 s_L_sum_184 H.1.1 rfl rfl rfl (Nat.le_of_ble_eq_true rfl) rfl rfl rfl (show k + 1 ≤ 300 by omega) (show n + 6 ≤ 2000 by omega) ⟨(show k + 1 ≤ 300 by omega), (show n + 6 ≤ 2000 by omega)⟩ rfl ?_
    refine la_number H J.inC (by decide) (by decide) (by decide) (by decide) ?_
    show WF _ E Po _ _ _ _ _ _ _
    rw [show stToldS (h.1 0) 5 = nI (n3 (h.1 0)) from J.1.2.2.1]
    refine r_icmp_ge (q := 203) (q2 := 172) dL_sum_169 (by decide) rfl (fun h9 => absurd h9 (nI_ge (show j < n3 (h.1 0) by omega) (by omega))) (fun _ => ?_)
    refine r_ldcL (q := 175) dL_sum_172 c_L_sum_268 rfl ?_
    refine r_lload_n (q := 176) dL_sum_175 rfl rfl rfl ?_
    refine r_lmul (q := 177) dL_sum_176 rfl ?_
    refine r_aload_n (q := 178) dL_sum_177 rfl rfl rfl ?_
    refine r_iload_n (q := 179) dL_sum_178 rfl rfl rfl ?_
    refine r_iconst (q := 180) (v := 1) dL_sum_179 rfl rfl ?_
    refine r_callSH (q := 183) (k2 := k + 2) (n2 := n + 12) (As := [_, _, _]) dL_sum_180 s_L_sum_191 rfl rfl (Nat.le_of_ble_eq_true rfl) rfl rfl rfl (show k + 2 ≤ 300 by omega) (show n + 12 ≤ 2000 by omega) ⟨(show k + 2 ≤ 300 by omega), (show n + 12 ≤ 2000 by omega)⟩ rfl ?_
    refine la_heaterOf H (fun u1 H1 F1 => ?_)
    show WF _ E Po _ _ _ _ _ _ _
    have X1 := X.tr F1
    refine r_i2l (q := 184) dL_sum_183 rfl ?_
    refine r_ladd (q := 185) dL_sum_184 rfl ?_
    refine r_bipush (q := 187) (v := 64) dL_sum_185 (by decide) rfl ?_
    refine r_aload_n (q := 188) dL_sum_187 rfl rfl rfl ?_
    refine r_iload_n (q := 189) dL_sum_188 rfl rfl rfl ?_
    refine r_iconst (q := 190) (v := 0) dL_sum_189 rfl rfl ?_
    refine r_callSH (q := 193) (k2 := k + 3) (n2 := n + 18) (As := [_, _, _]) dL_sum_190 s_L_sum_191 rfl rfl (Nat.le_of_ble_eq_true rfl) rfl rfl rfl (show k + 3 ≤ 300 by omega) (show n + 18 ≤ 2000 by omega) ⟨(show k + 3 ≤ 300 by omega), (show n + 18 ≤ 2000 by omega)⟩ rfl ?_
    refine la_heaterOf H1 (fun u2 H2 F2 => ?_)
    show WF _ E Po _ _ _ _ _ _ _
    have X2 := X1.tr F2
    refine r_imul (q := 194) dL_sum_193 rfl ?_
    refine r_i2l (q := 195) dL_sum_194 rfl ?_
    refine r_ladd (q := 196) dL_sum_195 rfl ?_
    refine r_lstore_n (q := 197) dL_sum_196 rfl (Nat.le_of_ble_eq_true rfl) (xone_of rfl) rfl ?_
    refine r_iinc (q := 200) dL_sum_197 rfl (Nat.le_of_ble_eq_true rfl) (xone_of rfl) rfl ?_
    rw [show nI j + Int32.ofInt 1 = nI (j + 1) from nI_1 j]
    refine r_goto (q := 163) dL_sum_200 (by decide) ?_
    exact ih (j + 1) _ _ (k + 3) (n + 18) _ (by omega) hv H2 X2 (by omega) (by omega)
set_option maxRecDepth 100000 in
set_option maxHeartbeats 4000000 in
theorem ct_L_sum {E : xE} {Po : xPo} {w : xW} {x K : Nat} {h : xHi} (J : J9 K (h.1 0)) (H : HI E w x h) (hp : ∀ u, HI E u x h → FX w u x h h → Po (.inl (some (.long (shS (h.1 0))))) u) : Ct M_L_sum E [.ref x] w Po := by
  refine Ct.of (ws2 := xAll) (L := [some (.ref x), none, none, none, none]) (by decide +kernel) rfl rfl (List.forall_mem_cons.mpr ⟨rfl, fun _ h => absurd h List.not_mem_nil⟩) (Nat.le_of_ble_eq_true rfl) rfl ?_
  have n8 := J.1.1.2
  have n5 := J.1.2.1.2
  have n4 := J.1.2.2.2
  refine r_ldcL (q := 3) dL_sum_0 c_L_sum_258 rfl ?_
  refine r_lstore_n (q := 4) dL_sum_3 rfl (Nat.le_of_ble_eq_true rfl) (xone_of rfl) rfl ?_
  refine r_iconst (q := 5) (v := 0) dL_sum_4 rfl rfl ?_
  refine r_istore_n (q := 6) dL_sum_5 rfl (Nat.le_of_ble_eq_true rfl) (xone_of rfl) rfl ?_
  refine su_1 J (fun u k n o4 H X hk hn => ?_) 15 0 7 w 0 0 none rfl rfl H FX.id (by omega) (by omega)
  refine r_iconst (q := 32) (v := 0) dL_sum_31 rfl rfl ?_
  refine r_istore_n (q := 33) dL_sum_32 rfl (Nat.le_of_ble_eq_true rfl) (xone_of rfl) rfl ?_
  refine su_3 J (fun u k n o4 H X hk hn => ?_) (n1 (h.1 0)) 0 _ u k n o4 (by omega) rfl H X (by omega) (by omega)
  refine r_iconst (q := 80) (v := 0) dL_sum_79 rfl rfl ?_
  refine r_istore_n (q := 81) dL_sum_80 rfl (Nat.le_of_ble_eq_true rfl) (xone_of rfl) rfl ?_
  refine su_6 J (fun u k n o4 H X hk hn => ?_) (n2 (h.1 0)) 0 _ u k n o4 (by omega) rfl H X (by omega) (by omega)
  refine r_iconst (q := 162) (v := 0) dL_sum_161 rfl rfl ?_
  refine r_istore_n (q := 163) dL_sum_162 rfl (Nat.le_of_ble_eq_true rfl) (xone_of rfl) rfl ?_
  exact su_7 J hp (n3 (h.1 0)) 0 _ u k n o4 (by omega) rfl H X (by omega) (by omega)
