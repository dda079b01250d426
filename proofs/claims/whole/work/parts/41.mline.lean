/-! ===== 41.mline: lines of the reference (rows laid by wip/whole/gen/make41.py) ===== -/
def catF (f : Nat → Int32) (l : List Int32) : Nat → Int32 := fun k => if k < l.length then l.getD k 0 else f k
theorem catF_0 {f : Nat → Int32} : catF f [] = f := by
  funext k
  exact if_neg (Nat.not_lt_zero _)
theorem catF_s {f : Nat → Int32} {l : List Int32} {x : Int32} : upd (catF f l) l.length x = catF f (l ++ [x]) := by
  funext k
  by_cases e : k = l.length
  · subst e
    rw [upd_s]
    show x = (if l.length < (l ++ [x]).length then (l ++ [x]).getD l.length 0 else _)
    rw [if_pos (by simp)]
    simp
  · rw [upd_o e]
    show (if k < l.length then l.getD k 0 else f k) = (if k < (l ++ [x]).length then (l ++ [x]).getD k 0 else f k)
    by_cases h : k < l.length
    · rw [if_pos h, if_pos (by simp; omega)]
      simp [List.getD_eq_getElem?_getD, List.getElem?_append_left h]
    · rw [if_neg h, if_neg (by simp; omega)]
theorem upd_id {o : Nat → Int32} {i : Nat} {x : Int32} (h : o i = x) : upd o i x = o := by
  funext k
  by_cases e : k = i
  · subst e; rw [upd_s, h]
  · exact upd_o e
/-- the signs of a number below 1000 -/
def digs (a : Nat) : List Int32 := if a ≤ 9 then [nI (48 + a % 10)] else if a ≤ 99 then [nI (48 + a / 10 % 10), nI (48 + a % 10)] else [nI (48 + a / 100 % 10), nI (48 + a / 10 % 10), nI (48 + a % 10)]
theorem digs_s {a : Nat} (h : 9 < a) (h2 : a < 1000) : digs a = digs (a / 10) ++ [nI (48 + a % 10)] := by
  unfold digs
  rw [if_neg (by omega)]
  by_cases h3 : a ≤ 99
  · rw [if_pos h3, if_pos (by omega)]; rfl
  · rw [if_neg h3, if_neg (by omega), if_pos (by omega), show a / 10 / 10 % 10 = a / 100 % 10 by omega]; rfl
theorem digs_len {a : Nat} : (digs a).length ≤ 3 := by
  unfold digs
  split
  · simp
  · split <;> simp
theorem dig_ok : ∀ a, a < 1000 → ((48 + (nI a - nI a / 10 * 10)).toUInt32 % 65536).toInt32 = nI (48 + a % 10) ∧ nI a / 10 = nI (a / 10) := by decide +kernel
theorem dig_nar : ∀ a, a < 10 → vp_nar .char (nI (48 + a)) = nI (48 + a) := by decide +kernel
abbrev byts (i : Nat) : List Int32 := xByt.getD i []
theorem byt_len {i : Nat} (h : i < 54) : xLen.getD i 0 = (byts i).length := (k_len i h).1
theorem vp_nar_of {b : Int32} (h : narrow .char (.int b) = .int b) : vp_nar .char b = b := by
  unfold vp_nar
  rw [h]
/-- the reference after a line so far -/
abbrev lsW (E : xE) (w : xW) (m : Nat) (d : xCo) (r : mRs) (o : Nat → Int32) (t : mTx) (l : List Int32) : xW := md E w m d r (upd o 6 (nI l.length)) (catF t.1 l, t.2)
theorem lsW_s {E : xE} {w : xW} {m : Nat} {d : xCo} {r : mRs} {o : Nat → Int32} {t : mTx} {l : List Int32} {x : Int32} : md E w m d r (upd (upd o 6 (nI l.length)) 6 (nI l.length + 1)) (upd (catF t.1 l) l.length x, t.2) = lsW E w m d r o t (l ++ [x]) := by
  show _ = md E w m d r (upd o 6 (nI (l ++ [x]).length)) (catF t.1 (l ++ [x]), t.2)
  rw [upd_upd, catF_s, nI_1, List.length_append]
  rfl
set_option maxRecDepth 100000 in
set_option maxHeartbeats 4000000 in
theorem lp_X10_says {E : xE} {Po : xPo} {w0 w : xW} {m : Nat} {d : xCo} {r : mRs} {o : Nat → Int32} {t : mTx} {i : Nat} {l : List Int32} (hi : i < 54) (hb : l.length + (byts i).length ≤ 60) (hp : Po (.inl none) (lsW E w m d r o t (l ++ byts i))) (n9 : Nat) : ∀ (j : Nat) (hj : j ≤ (byts i).length) (hn9 : (byts i).length - j < n9), WF M_X10_says E Po w0 2 [some (.ref m), some (.ref (kS E i)), some (.int (nI j))] [] (lsW E w m d r o t (l ++ (byts i).take j)) 0 0 := by
  induction n9 with
  | zero => intro j hj hn9; exact absurd hn9 (Nat.not_lt_zero _)
  | succ n9 ih =>
    intro j hj hn9
    have hll : (l ++ (byts i).take j).length = l.length + j := by rw [List.length_append, List.length_take]; omega
    refine r_iload_n (q := 3) dX10_says_2 rfl rfl rfl ?_
    refine r_aload_n (q := 4) dX10_says_3 rfl rfl rfl ?_
    refine r_callK (q := 7) (As := []) dX10_says_4 s_X10_says_198 (k_so hi) rfl rfl (Nat.le_of_ble_eq_true rfl) rfl rfl rfl (Nat.le_of_ble_eq_true rfl) (Nat.le_of_ble_eq_true rfl) ⟨(Nat.le_of_ble_eq_true rfl), (Nat.le_of_ble_eq_true rfl)⟩ rfl ?_
    refine ct_J0_length_8abf5 hi ?_
    show WF _ E Po _ _ _ _ _ _ _
    rw [byt_len hi]
    refine r_icmp_ge (q := 40) (q2 := 10) dX10_says_7 (by decide) rfl (fun h7 => ?_) (fun h7 => ?_)
    · obtain rfl : j = (byts i).length := by have := (nI_leI (by omega) (by omega)).mp h7; omega
      rw [List.take_length]
      refine r_vret dX10_says_40 rfl (Nat.le_of_ble_eq_true rfl) (Nat.le_of_ble_eq_true rfl) ?_
      exact hp
    · have hjl : j < (byts i).length := by
        have : ¬ (byts i).length ≤ j := fun q => h7 ((nI_leI (by omega) (by omega)).mpr q)
        omega
      have htk : (byts i).take (j + 1) = (byts i).take j ++ [(byts i).getD j 0] := by
        rw [List.take_succ, List.getD_eq_getElem?_getD, List.getElem?_eq_getElem hjl]
        rfl
      refine r_aload_n (q := 11) dX10_says_10 rfl rfl rfl ?_
      refine r_getfield (q := 14) dX10_says_11 f_X10_says_25 md_g0 rfl rfl ?_
      refine r_aload_n (q := 15) dX10_says_14 rfl rfl rfl ?_
      refine r_getfield (q := 18) dX10_says_15 f_X10_says_201 md_g0 rfl rfl ?_
      refine r_aload_n (q := 19) dX10_says_18 rfl rfl rfl ?_
      refine r_iload_n (q := 20) dX10_says_19 rfl rfl rfl ?_
      refine r_callK (q := 23) (As := [_]) dX10_says_20 s_X10_says_204 (k_so hi) rfl rfl (Nat.le_of_ble_eq_true rfl) rfl rfl rfl (Nat.le_of_ble_eq_true rfl) (Nat.le_of_ble_eq_true rfl) ⟨(Nat.le_of_ble_eq_true rfl), (Nat.le_of_ble_eq_true rfl)⟩ rfl ?_
      refine ct_J0_charAt_5068e hi (by rw [byt_len hi]; exact hjl) ?_
      show WF _ E Po _ _ _ _ _ _ _
      refine r_castore (q := 24) dX10_says_23 md_g6 (by show vp_in (nI (l ++ (byts i).take j).length) 60; exact vp_in_nI (by omega) (by decide)) rfl ?_
      rw [show (upd o 6 (nI (l ++ (byts i).take j).length) 6).toNatClampNeg = (l ++ (byts i).take j).length from nI_cl (by omega), vp_nar_of (k_byt hi (by rw [byt_len hi]; exact hjl)).2]
      refine WF.cw md_p6 ?_
      refine r_aload_n (q := 25) dX10_says_24 rfl rfl rfl ?_
      refine r_dup (q := 26) dX10_says_25 rfl rfl ?_
      refine r_getfield (q := 29) dX10_says_26 f_X10_says_201 md_g0 rfl rfl ?_
      refine r_iconst (q := 30) (v := 1) dX10_says_29 rfl rfl ?_
      refine r_iadd (q := 31) dX10_says_30 rfl ?_
      refine r_putfield (q := 34) dX10_says_31 f_X10_says_201 md_g0 rfl rfl (by exact Nat.le_of_ble_eq_true rfl) rfl ?_
      refine WF.cw (md_po (i := 6) (o := upd o 6 (nI (l ++ (byts i).take j).length)) (v := nI (l ++ (byts i).take j).length + 1)) ?_
      refine WF.cw lsW_s ?_
      rw [List.append_assoc, ← htk]
      refine r_iinc (q := 37) dX10_says_34 rfl (Nat.le_of_ble_eq_true rfl) (xone_of rfl) rfl ?_
      rw [show nI j + Int32.ofInt 1 = nI (j + 1) from nI_1 j]
      refine r_goto (q := 2) dX10_says_37 (by decide) ?_
      exact ih (j + 1) (by omega) (by omega)
set_option maxRecDepth 100000 in
set_option maxHeartbeats 4000000 in
theorem ct_X10_says {E : xE} {Po : xPo} {w : xW} {m : Nat} {d : xCo} {r : mRs} {o : Nat → Int32} {t : mTx} {i : Nat} {l : List Int32} (hi : i < 54) (hb : l.length + (byts i).length ≤ 60) (hp : Po (.inl none) (lsW E w m d r o t (l ++ byts i))) : Ct M_X10_says E [.ref m, .ref (kS E i)] (lsW E w m d r o t l) Po := by
  refine Ct.of (ws2 := xAll) (L := [some (.ref m), some (.ref (kS E i)), none]) (by decide +kernel) rfl rfl (List.forall_mem_cons.mpr ⟨rfl, List.forall_mem_cons.mpr ⟨rfl, fun _ h => absurd h List.not_mem_nil⟩⟩) (Nat.le_of_ble_eq_true rfl) rfl ?_
  refine r_iconst (q := 1) (v := 0) dX10_says_0 rfl rfl ?_
  refine r_istore_n (q := 2) dX10_says_1 rfl (Nat.le_of_ble_eq_true rfl) (xone_of rfl) rfl ?_
  have h9 := lp_X10_says (w0 := lsW E w m d r o t l) hi hb hp ((byts i).length + 1) 0 (Nat.zero_le _) (by omega)
  rw [List.take_zero, List.append_nil] at h9
  exact h9
theorem v175 : (Jvm.Cond.methodLink "TubHireModel" (208 : Nat) ({ cls := "TubHireModel", name := "saysNumber", desc := "(I)V" } : Jvm.MethodName)) ∈ xAll := xin8 (List.mem_of_getElem? (i := 15) (by decide +kernel)) (by decide +kernel)
theorem v176 : (Jvm.Cond.instanceMethod ({ cls := "TubHireModel", name := "saysNumber", desc := "(I)V" } : Jvm.MethodName)) ∈ xAll := xin8 (List.mem_of_getElem? (i := 17) (by decide +kernel)) (by decide +kernel)
theorem v177 : (Jvm.Cond.code ({ cls := "TubHireModel", name := "saysNumber", desc := "(I)V" } : Jvm.MethodName) prog_12_method_59_code (2 : Nat) (Option.none : Option Jvm.ClassFile.FieldType)) ∈ xAll := xin8 (List.mem_of_getElem? (i := 18) (by decide +kernel)) (by decide +kernel)
theorem v178 : (Jvm.Cond.initialized "TubHireModel") ∈ xAll := xin1 (List.mem_of_getElem? (i := 15) (by decide +kernel)) (by decide +kernel)
theorem sn_sel : (Jvm.Cond.selects "TubHireModel" ({ cls := "TubHireModel", name := "saysNumber", desc := "(I)V" } : Jvm.MethodName) ({ cls := "TubHireModel", name := "saysNumber", desc := "(I)V" } : Jvm.MethodName)) ∈ xAll := xin0 (List.mem_of_getElem? (i := 36) (by decide +kernel)) (by decide +kernel)
def Mn0 : xM := (yX10_saysNumber, cX10_saysNumber, 2, none, Cond.code yX10_saysNumber cX10_saysNumber 2 none :: xAll, { frames := 2, cells := 0, slots := 0, locals := 60 }, (0, 0), [])
def Mn1 : xM := (yX10_saysNumber, cX10_saysNumber, 2, none, Cond.code yX10_saysNumber cX10_saysNumber 2 none :: xAll, { frames := 4, cells := 0, slots := 0, locals := 200 }, (0, 0), [])
theorem sn_Mn1 : xSv M_X10_saysNumber Mn1 208 1 := fun s args hts => cwV 1 hts (xGV v175 v176 sn_sel v178 v177) rfl rfl rfl (by decide +kernel) ⟨Nat.le_of_ble_eq_true rfl, Nat.le_of_ble_eq_true rfl⟩
theorem sn_Mn0 : xSv Mn1 Mn0 208 1 := fun s args hts => cwV 1 hts (xGV v175 v176 sn_sel v178 v177) rfl rfl rfl (by decide +kernel) ⟨Nat.le_of_ble_eq_true rfl, Nat.le_of_ble_eq_true rfl⟩
theorem digs_pos {a : Nat} : 1 ≤ (digs a).length := by
  unfold digs
  split
  · simp
  · split <;> simp
set_option maxRecDepth 100000 in
set_option maxHeartbeats 4000000 in
theorem ct_Mn0 {E : xE} {Po : xPo} {w : xW} {m : Nat} {d : xCo} {r : mRs} {o : Nat → Int32} {t : mTx} {a : Nat} {l : List Int32} (ha : a ≤ 9) (hb : l.length + (digs a).length ≤ 60) (hp : Po (.inl none) (lsW E w m d r o t (l ++ digs a))) : Ct Mn0 E [.ref m, .int (nI a)] (lsW E w m d r o t l) Po := by
  refine Ct.of (ws2 := xAll) (L := [some (.ref m), some (.int (nI a))]) (by decide +kernel) rfl rfl (List.forall_mem_cons.mpr ⟨rfl, List.forall_mem_cons.mpr ⟨rfl, fun _ h => absurd h List.not_mem_nil⟩⟩) (Nat.le_of_ble_eq_true rfl) rfl ?_
  have hd1 : 1 ≤ (digs a).length := digs_pos
  refine r_iload_n (q := 1) dX10_saysNumber_0 rfl rfl rfl ?_
  refine r_bipush (q := 3) (v := 9) dX10_saysNumber_1 (by decide) rfl ?_
  refine r_icmp_le (q := 14) (q2 := 6) dX10_saysNumber_3 (by decide) rfl (fun _ => ?_) (fun h9 => absurd ((nI_leI (a := a) (b := 9) (by omega) (by decide)).mpr ha) h9)
  refine r_aload_n (q := 15) dX10_saysNumber_14 rfl rfl rfl ?_
  refine r_getfield (q := 18) dX10_saysNumber_15 f_X10_saysNumber_25 md_g0 rfl rfl ?_
  refine r_aload_n (q := 19) dX10_saysNumber_18 rfl rfl rfl ?_
  refine r_getfield (q := 22) dX10_saysNumber_19 f_X10_saysNumber_201 md_g0 rfl rfl ?_
  refine r_bipush (q := 24) (v := 48) dX10_saysNumber_22 (by decide) rfl ?_
  refine r_iload_n (q := 25) dX10_saysNumber_24 rfl rfl rfl ?_
  refine r_bipush (q := 27) (v := 10) dX10_saysNumber_25 (by decide) rfl ?_
  refine r_irem (q := 28) dX10_saysNumber_27 (by decide) rfl ?_
  refine r_iadd (q := 29) dX10_saysNumber_28 rfl ?_
  refine r_i2c (q := 30) dX10_saysNumber_29 rfl ?_
  refine r_castore (q := 31) dX10_saysNumber_30 md_g6 (by show vp_in (nI l.length) 60; exact vp_in_nI (by omega) (by decide)) rfl ?_
  rw [show (upd o 6 (nI l.length) 6).toNatClampNeg = l.length from nI_cl (by omega), (dig_ok a (by omega)).1, dig_nar _ (Nat.mod_lt _ (by decide))]
  refine WF.cw md_p6 ?_
  refine r_aload_n (q := 32) dX10_saysNumber_31 rfl rfl rfl ?_
  refine r_dup (q := 33) dX10_saysNumber_32 rfl rfl ?_
  refine r_getfield (q := 36) dX10_saysNumber_33 f_X10_saysNumber_201 md_g0 rfl rfl ?_
  refine r_iconst (q := 37) (v := 1) dX10_saysNumber_36 rfl rfl ?_
  refine r_iadd (q := 38) dX10_saysNumber_37 rfl ?_
  refine r_putfield (q := 41) dX10_saysNumber_38 f_X10_saysNumber_201 md_g0 rfl rfl (by exact Nat.le_of_ble_eq_true rfl) rfl ?_
  refine WF.cw (md_po (i := 6) (o := upd o 6 (nI l.length)) (v := nI l.length + 1)) ?_
  refine WF.cw lsW_s ?_
  refine r_vret dX10_saysNumber_41 rfl (Nat.le_of_ble_eq_true rfl) (Nat.le_of_ble_eq_true rfl) ?_
  rw [show digs a = [nI (48 + a % 10)] from if_pos ha] at hp
  exact hp
set_option maxRecDepth 100000 in
set_option maxHeartbeats 4000000 in
theorem ct_Mn1 {E : xE} {Po : xPo} {w : xW} {m : Nat} {d : xCo} {r : mRs} {o : Nat → Int32} {t : mTx} {a : Nat} {l : List Int32} (ha : a ≤ 99) (hb : l.length + (digs a).length ≤ 60) (hp : Po (.inl none) (lsW E w m d r o t (l ++ digs a))) : Ct Mn1 E [.ref m, .int (nI a)] (lsW E w m d r o t l) Po := by
  refine Ct.of (ws2 := xAll) (L := [some (.ref m), some (.int (nI a))]) (by decide +kernel) rfl rfl (List.forall_mem_cons.mpr ⟨rfl, List.forall_mem_cons.mpr ⟨rfl, fun _ h => absurd h List.not_mem_nil⟩⟩) (Nat.le_of_ble_eq_true rfl) rfl ?_
  have hd1 : 1 ≤ (digs a).length := digs_pos
  refine r_iload_n (q := 1) dX10_saysNumber_0 rfl rfl rfl ?_
  refine r_bipush (q := 3) (v := 9) dX10_saysNumber_1 (by decide) rfl ?_
  refine r_icmp_le (q := 14) (q2 := 6) dX10_saysNumber_3 (by decide) rfl (fun h3 => ?_) (fun h3 => ?_)
  · have ha9 : a ≤ 9 := (nI_leI (b := 9) (by omega) (by decide)).mp h3
    rw [show digs a = [nI (48 + a % 10)] from if_pos ha9] at hp
    refine r_aload_n (q := 15) dX10_saysNumber_14 rfl rfl rfl ?_
    refine r_getfield (q := 18) dX10_saysNumber_15 f_X10_saysNumber_25 md_g0 rfl rfl ?_
    refine r_aload_n (q := 19) dX10_saysNumber_18 rfl rfl rfl ?_
    refine r_getfield (q := 22) dX10_saysNumber_19 f_X10_saysNumber_201 md_g0 rfl rfl ?_
    refine r_bipush (q := 24) (v := 48) dX10_saysNumber_22 (by decide) rfl ?_
    refine r_iload_n (q := 25) dX10_saysNumber_24 rfl rfl rfl ?_
    refine r_bipush (q := 27) (v := 10) dX10_saysNumber_25 (by decide) rfl ?_
    refine r_irem (q := 28) dX10_saysNumber_27 (by decide) rfl ?_
    refine r_iadd (q := 29) dX10_saysNumber_28 rfl ?_
    refine r_i2c (q := 30) dX10_saysNumber_29 rfl ?_
    refine r_castore (q := 31) dX10_saysNumber_30 md_g6 (by show vp_in (nI l.length) 60; exact vp_in_nI (by omega) (by decide)) rfl ?_
    rw [show (upd o 6 (nI l.length) 6).toNatClampNeg = l.length from nI_cl (by omega), (dig_ok a (by omega)).1, dig_nar _ (Nat.mod_lt _ (by decide))]
    refine WF.cw md_p6 ?_
    refine r_aload_n (q := 32) dX10_saysNumber_31 rfl rfl rfl ?_
    refine r_dup (q := 33) dX10_saysNumber_32 rfl rfl ?_
    refine r_getfield (q := 36) dX10_saysNumber_33 f_X10_saysNumber_201 md_g0 rfl rfl ?_
    refine r_iconst (q := 37) (v := 1) dX10_saysNumber_36 rfl rfl ?_
    refine r_iadd (q := 38) dX10_saysNumber_37 rfl ?_
    refine r_putfield (q := 41) dX10_saysNumber_38 f_X10_saysNumber_201 md_g0 rfl rfl (by exact Nat.le_of_ble_eq_true rfl) rfl ?_
    refine WF.cw (md_po (i := 6) (o := upd o 6 (nI l.length)) (v := nI l.length + 1)) ?_
    refine WF.cw lsW_s ?_
    refine r_vret dX10_saysNumber_41 rfl (Nat.le_of_ble_eq_true rfl) (Nat.le_of_ble_eq_true rfl) ?_
    exact hp
  · have ha9 : 9 < a := by
      have : ¬ a ≤ 9 := fun q => h3 ((nI_leI (b := 9) (by omega) (by decide)).mpr q)
      omega
    rw [digs_s ha9 (by omega), ← List.append_assoc] at hp
    rw [digs_s ha9 (by omega), List.length_append, List.length_singleton] at hb
    have hlen : (l ++ digs (a / 10)).length = l.length + (digs (a / 10)).length := List.length_append
    refine r_aload_n (q := 7) dX10_saysNumber_6 rfl rfl rfl ?_
    refine r_iload_n (q := 8) dX10_saysNumber_7 rfl rfl rfl ?_
    refine r_bipush (q := 10) (v := 10) dX10_saysNumber_8 (by decide) rfl ?_
    refine r_idiv (q := 11) dX10_saysNumber_10 (by decide) rfl ?_
    rw [(dig_ok a (by omega)).2]
    refine r_callV (q := 14) (ci := 12) (As := [_]) dX10_saysNumber_11 sn_Mn0 md_g0 rfl rfl rfl (Nat.le_of_ble_eq_true rfl) rfl rfl rfl (Nat.le_of_ble_eq_true rfl) (Nat.le_of_ble_eq_true rfl) ⟨(Nat.le_of_ble_eq_true rfl), (Nat.le_of_ble_eq_true rfl)⟩ rfl ?_
    refine ct_Mn0 (a := a / 10) (by omega) (by omega) ?_
    show WF _ E Po _ _ _ _ _ _ _
    refine r_aload_n (q := 15) dX10_saysNumber_14 rfl rfl rfl ?_
    refine r_getfield (q := 18) dX10_saysNumber_15 f_X10_saysNumber_25 md_g0 rfl rfl ?_
    refine r_aload_n (q := 19) dX10_saysNumber_18 rfl rfl rfl ?_
    refine r_getfield (q := 22) dX10_saysNumber_19 f_X10_saysNumber_201 md_g0 rfl rfl ?_
    refine r_bipush (q := 24) (v := 48) dX10_saysNumber_22 (by decide) rfl ?_
    refine r_iload_n (q := 25) dX10_saysNumber_24 rfl rfl rfl ?_
    refine r_bipush (q := 27) (v := 10) dX10_saysNumber_25 (by decide) rfl ?_
    refine r_irem (q := 28) dX10_saysNumber_27 (by decide) rfl ?_
    refine r_iadd (q := 29) dX10_saysNumber_28 rfl ?_
    refine r_i2c (q := 30) dX10_saysNumber_29 rfl ?_
    refine r_castore (q := 31) dX10_saysNumber_30 md_g6 (by show vp_in (nI (l ++ digs (a / 10)).length) 60; exact vp_in_nI (by omega) (by decide)) rfl ?_
    rw [show (upd o 6 (nI (l ++ digs (a / 10)).length) 6).toNatClampNeg = (l ++ digs (a / 10)).length from nI_cl (by omega), (dig_ok a (by omega)).1, dig_nar _ (Nat.mod_lt _ (by decide))]
    refine WF.cw md_p6 ?_
    refine r_aload_n (q := 32) dX10_saysNumber_31 rfl rfl rfl ?_
    refine r_dup (q := 33) dX10_saysNumber_32 rfl rfl ?_
    refine r_getfield (q := 36) dX10_saysNumber_33 f_X10_saysNumber_201 md_g0 rfl rfl ?_
    refine r_iconst (q := 37) (v := 1) dX10_saysNumber_36 rfl rfl ?_
    refine r_iadd (q := 38) dX10_saysNumber_37 rfl ?_
    refine r_putfield (q := 41) dX10_saysNumber_38 f_X10_saysNumber_201 md_g0 rfl rfl (by exact Nat.le_of_ble_eq_true rfl) rfl ?_
    refine WF.cw (md_po (i := 6) (o := upd o 6 (nI (l ++ digs (a / 10)).length)) (v := nI (l ++ digs (a / 10)).length + 1)) ?_
    refine WF.cw lsW_s ?_
    refine r_vret dX10_saysNumber_41 rfl (Nat.le_of_ble_eq_true rfl) (Nat.le_of_ble_eq_true rfl) ?_
    exact hp
set_option maxRecDepth 100000 in
set_option maxHeartbeats 4000000 in
theorem ct_X10_saysNumber {E : xE} {Po : xPo} {w : xW} {m : Nat} {d : xCo} {r : mRs} {o : Nat → Int32} {t : mTx} {a : Nat} {l : List Int32} (ha : a ≤ 999) (hb : l.length + (digs a).length ≤ 60) (hp : Po (.inl none) (lsW E w m d r o t (l ++ digs a))) : Ct M_X10_saysNumber E [.ref m, .int (nI a)] (lsW E w m d r o t l) Po := by
  refine Ct.of (ws2 := xAll) (L := [some (.ref m), some (.int (nI a))]) (by decide +kernel) rfl rfl (List.forall_mem_cons.mpr ⟨rfl, List.forall_mem_cons.mpr ⟨rfl, fun _ h => absurd h List.not_mem_nil⟩⟩) (Nat.le_of_ble_eq_true rfl) rfl ?_
  have hd1 : 1 ≤ (digs a).length := digs_pos
  refine r_iload_n (q := 1) dX10_saysNumber_0 rfl rfl rfl ?_
  refine r_bipush (q := 3) (v := 9) dX10_saysNumber_1 (by decide) rfl ?_
  refine r_icmp_le (q := 14) (q2 := 6) dX10_saysNumber_3 (by decide) rfl (fun h3 => ?_) (fun h3 => ?_)
  · have ha9 : a ≤ 9 := (nI_leI (b := 9) (by omega) (by decide)).mp h3
    rw [show digs a = [nI (48 + a % 10)] from if_pos ha9] at hp
    refine r_aload_n (q := 15) dX10_saysNumber_14 rfl rfl rfl ?_
    refine r_getfield (q := 18) dX10_saysNumber_15 f_X10_saysNumber_25 md_g0 rfl rfl ?_
    refine r_aload_n (q := 19) dX10_saysNumber_18 rfl rfl rfl ?_
    refine r_getfield (q := 22) dX10_saysNumber_19 f_X10_saysNumber_201 md_g0 rfl rfl ?_
    refine r_bipush (q := 24) (v := 48) dX10_saysNumber_22 (by decide) rfl ?_
    refine r_iload_n (q := 25) dX10_saysNumber_24 rfl rfl rfl ?_
    refine r_bipush (q := 27) (v := 10) dX10_saysNumber_25 (by decide) rfl ?_
    refine r_irem (q := 28) dX10_saysNumber_27 (by decide) rfl ?_
    refine r_iadd (q := 29) dX10_saysNumber_28 rfl ?_
    refine r_i2c (q := 30) dX10_saysNumber_29 rfl ?_
    refine r_castore (q := 31) dX10_saysNumber_30 md_g6 (by show vp_in (nI l.length) 60; exact vp_in_nI (by omega) (by decide)) rfl ?_
    rw [show (upd o 6 (nI l.length) 6).toNatClampNeg = l.length from nI_cl (by omega), (dig_ok a (by omega)).1, dig_nar _ (Nat.mod_lt _ (by decide))]
    refine WF.cw md_p6 ?_
    refine r_aload_n (q := 32) dX10_saysNumber_31 rfl rfl rfl ?_
    refine r_dup (q := 33) dX10_saysNumber_32 rfl rfl ?_
    refine r_getfield (q := 36) dX10_saysNumber_33 f_X10_saysNumber_201 md_g0 rfl rfl ?_
    refine r_iconst (q := 37) (v := 1) dX10_saysNumber_36 rfl rfl ?_
    refine r_iadd (q := 38) dX10_saysNumber_37 rfl ?_
    refine r_putfield (q := 41) dX10_saysNumber_38 f_X10_saysNumber_201 md_g0 rfl rfl (by exact Nat.le_of_ble_eq_true rfl) rfl ?_
    refine WF.cw (md_po (i := 6) (o := upd o 6 (nI l.length)) (v := nI l.length + 1)) ?_
    refine WF.cw lsW_s ?_
    refine r_vret dX10_saysNumber_41 rfl (Nat.le_of_ble_eq_true rfl) (Nat.le_of_ble_eq_true rfl) ?_
    exact hp
  · have ha9 : 9 < a := by
      have : ¬ a ≤ 9 := fun q => h3 ((nI_leI (b := 9) (by omega) (by decide)).mpr q)
      omega
    rw [digs_s ha9 (by omega), ← List.append_assoc] at hp
    rw [digs_s ha9 (by omega), List.length_append, List.length_singleton] at hb
    have hlen : (l ++ digs (a / 10)).length = l.length + (digs (a / 10)).length := List.length_append
    refine r_aload_n (q := 7) dX10_saysNumber_6 rfl rfl rfl ?_
    refine r_iload_n (q := 8) dX10_saysNumber_7 rfl rfl rfl ?_
    refine r_bipush (q := 10) (v := 10) dX10_saysNumber_8 (by decide) rfl ?_
    refine r_idiv (q := 11) dX10_saysNumber_10 (by decide) rfl ?_
    rw [(dig_ok a (by omega)).2]
    refine r_callV (q := 14) (ci := 12) (As := [_]) dX10_saysNumber_11 sn_Mn1 md_g0 rfl rfl rfl (Nat.le_of_ble_eq_true rfl) rfl rfl rfl (Nat.le_of_ble_eq_true rfl) (Nat.le_of_ble_eq_true rfl) ⟨(Nat.le_of_ble_eq_true rfl), (Nat.le_of_ble_eq_true rfl)⟩ rfl ?_
    refine ct_Mn1 (a := a / 10) (by omega) (by omega) ?_
    show WF _ E Po _ _ _ _ _ _ _
    refine r_aload_n (q := 15) dX10_saysNumber_14 rfl rfl rfl ?_
    refine r_getfield (q := 18) dX10_saysNumber_15 f_X10_saysNumber_25 md_g0 rfl rfl ?_
    refine r_aload_n (q := 19) dX10_saysNumber_18 rfl rfl rfl ?_
    refine r_getfield (q := 22) dX10_saysNumber_19 f_X10_saysNumber_201 md_g0 rfl rfl ?_
    refine r_bipush (q := 24) (v := 48) dX10_saysNumber_22 (by decide) rfl ?_
    refine r_iload_n (q := 25) dX10_saysNumber_24 rfl rfl rfl ?_
    refine r_bipush (q := 27) (v := 10) dX10_saysNumber_25 (by decide) rfl ?_
    refine r_irem (q := 28) dX10_saysNumber_27 (by decide) rfl ?_
    refine r_iadd (q := 29) dX10_saysNumber_28 rfl ?_
    refine r_i2c (q := 30) dX10_saysNumber_29 rfl ?_
    refine r_castore (q := 31) dX10_saysNumber_30 md_g6 (by show vp_in (nI (l ++ digs (a / 10)).length) 60; exact vp_in_nI (by omega) (by decide)) rfl ?_
    rw [show (upd o 6 (nI (l ++ digs (a / 10)).length) 6).toNatClampNeg = (l ++ digs (a / 10)).length from nI_cl (by omega), (dig_ok a (by omega)).1, dig_nar _ (Nat.mod_lt _ (by decide))]
    refine WF.cw md_p6 ?_
    refine r_aload_n (q := 32) dX10_saysNumber_31 rfl rfl rfl ?_
    refine r_dup (q := 33) dX10_saysNumber_32 rfl rfl ?_
    refine r_getfield (q := 36) dX10_saysNumber_33 f_X10_saysNumber_201 md_g0 rfl rfl ?_
    refine r_iconst (q := 37) (v := 1) dX10_saysNumber_36 rfl rfl ?_
    refine r_iadd (q := 38) dX10_saysNumber_37 rfl ?_
    refine r_putfield (q := 41) dX10_saysNumber_38 f_X10_saysNumber_201 md_g0 rfl rfl (by exact Nat.le_of_ble_eq_true rfl) rfl ?_
    refine WF.cw (md_po (i := 6) (o := upd o 6 (nI (l ++ digs (a / 10)).length)) (v := nI (l ++ digs (a / 10)).length + 1)) ?_
    refine WF.cw lsW_s ?_
    refine r_vret dX10_saysNumber_41 rfl (Nat.le_of_ble_eq_true rfl) (Nat.le_of_ble_eq_true rfl) ?_
    exact hp
def tubL (d : xCo) (j : Nat) : List Int32 := byts 39 ++ (digs j ++ (byts 39 ++ (digs (d.2.1 j 3).toNatClampNeg ++ (byts 40 ++ (if d.2.1 j 3 ≤ 0 then [] else byts 39 ++ (digs (d.2.1 j 4).toNatClampNeg ++ (if d.2.1 j 5 = 1 then byts 41 else byts 42)))))))
def lineL (d : xCo) (u : Nat) : List Int32 := digs u ++ (byts 37 ++ ((if 0 ≤ d.2.2.1 u 1 then tubL d (d.2.2.1 u 1).toNatClampNeg else byts 38) ++ ((if d.2.2.1 u 2 < 0 then [] else byts 43 ++ digs (d.2.2.2 (d.2.2.1 u 2).toNatClampNeg 0).toNatClampNeg) ++ (if d.2.2.1 u 4 ≤ 0 then [] else byts 44 ++ digs (d.2.2.1 u 4).toNatClampNeg))))
theorem tubL_len {d : xCo} {j : Nat} : (tubL d j).length ≤ 20 := by
  have h1 := @digs_len j
  have h2 := @digs_len (d.2.1 j 3).toNatClampNeg
  have h3 := @digs_len (d.2.1 j 4).toNatClampNeg
  have b1 : (byts 39).length = 1 := rfl
  have b2 : (byts 40).length = 1 := rfl
  have b3 : (byts 41).length = 7 := rfl
  have b4 : (byts 42).length = 1 := rfl
  unfold tubL
  simp only [List.length_append]
  split
  · simp only [List.length_nil]; omega
  · simp only [List.length_append]
    split <;> omega
/-- numbers of a line are small -/
def inL (d : xCo) : Prop := inP d ∧ (∀ j, j < 8 → ∃ a, a < 1000 ∧ d.2.1 j 3 = nI a) ∧ (∀ j, j < 8 → ∃ a, a < 1000 ∧ d.2.1 j 4 = nI a) ∧ (∀ g, g < 4 → ∃ a, a < 1000 ∧ d.2.2.2 g 0 = nI a)
set_option maxRecDepth 100000 in
set_option maxHeartbeats 4000000 in
theorem ct_X10_saysTub {E : xE} {Po : xPo} {w : xW} {m : Nat} {d : xCo} {r : mRs} {o : Nat → Int32} {t : mTx} {j a b : Nat} {l : List Int32} (hj : j < 8) (ha : a < 1000) (ea : d.2.1 j 3 = nI a) (hb : b < 1000) (eb : d.2.1 j 4 = nI b) (hl : l.length ≤ 40) (hp : Po (.inl none) (lsW E w m d r o t (l ++ tubL d j))) : Ct M_X10_saysTub E [.ref m, .int (nI j)] (lsW E w m d r o t l) Po := by
  refine Ct.of (ws2 := xAll) (L := [some (.ref m), some (.int (nI j))]) (by decide +kernel) rfl rfl (List.forall_mem_cons.mpr ⟨rfl, List.forall_mem_cons.mpr ⟨rfl, fun _ h => absurd h List.not_mem_nil⟩⟩) (Nat.le_of_ble_eq_true rfl) rfl ?_
  unfold tubL at hp
  rw [ea, eb, nI_cl (by omega), nI_cl (by omega)] at hp
  have h1 := @digs_len j
  have h2 := @digs_len a
  have h3 := @digs_len b
  have b39 : (byts 39).length = 1 := rfl
  have b40 : (byts 40).length = 1 := rfl
  have b41 : (byts 41).length = 7 := rfl
  have b42 : (byts 42).length = 1 := rfl
  refine r_aload_n (q := 1) dX10_saysTub_0 rfl rfl rfl ?_
  refine r_ldcS (q := 3) (i := 39) dX10_saysTub_1 rfl rfl ?_
  refine r_callV (q := 6) (ci := 12) (As := [_]) dX10_saysTub_3 s_X10_saysTub_214 md_g0 rfl rfl rfl (Nat.le_of_ble_eq_true rfl) rfl rfl rfl (Nat.le_of_ble_eq_true rfl) (Nat.le_of_ble_eq_true rfl) ⟨(Nat.le_of_ble_eq_true rfl), (Nat.le_of_ble_eq_true rfl)⟩ rfl ?_
  refine ct_X10_says (i := 39) (by decide) (by (try simp only [List.length_append]); omega) ?_
  show WF _ E Po _ _ _ _ _ _ _
  refine r_aload_n (q := 7) dX10_saysTub_6 rfl rfl rfl ?_
  refine r_iload_n (q := 8) dX10_saysTub_7 rfl rfl rfl ?_
  refine r_callV (q := 11) (ci := 12) (As := [_]) dX10_saysTub_8 s_X10_saysTub_208 md_g0 rfl rfl rfl (Nat.le_of_ble_eq_true rfl) rfl rfl rfl (Nat.le_of_ble_eq_true rfl) (Nat.le_of_ble_eq_true rfl) ⟨(Nat.le_of_ble_eq_true rfl), (Nat.le_of_ble_eq_true rfl)⟩ rfl ?_
  refine ct_X10_saysNumber (a := j) (by omega) (by (try simp only [List.length_append]); omega) ?_
  show WF _ E Po _ _ _ _ _ _ _
  refine r_aload_n (q := 12) dX10_saysTub_11 rfl rfl rfl ?_
  refine r_ldcS (q := 14) (i := 39) dX10_saysTub_12 rfl rfl ?_
  refine r_callV (q := 17) (ci := 12) (As := [_]) dX10_saysTub_14 s_X10_saysTub_214 md_g0 rfl rfl rfl (Nat.le_of_ble_eq_true rfl) rfl rfl rfl (Nat.le_of_ble_eq_true rfl) (Nat.le_of_ble_eq_true rfl) ⟨(Nat.le_of_ble_eq_true rfl), (Nat.le_of_ble_eq_true rfl)⟩ rfl ?_
  refine ct_X10_says (i := 39) (by decide) (by (try simp only [List.length_append]); omega) ?_
  show WF _ E Po _ _ _ _ _ _ _
  refine r_aload_n (q := 18) dX10_saysTub_17 rfl rfl rfl ?_
  refine r_aload_n (q := 19) dX10_saysTub_18 rfl rfl rfl ?_
  refine r_iload_n (q := 20) dX10_saysTub_19 rfl rfl rfl ?_
  refine r_iconst (q := 21) (v := 3) dX10_saysTub_20 rfl rfl ?_
  refine r_callV (q := 24) (ci := 12) (As := [_, _]) dX10_saysTub_21 s_X10_saysTub_93 md_g0 rfl rfl rfl (Nat.le_of_ble_eq_true rfl) rfl rfl rfl (Nat.le_of_ble_eq_true rfl) (Nat.le_of_ble_eq_true rfl) ⟨(Nat.le_of_ble_eq_true rfl), (Nat.le_of_ble_eq_true rfl)⟩ rfl ?_
  refine ct_X10_tub1 (k := 3) hj (by decide) ?_
  show WF _ E Po _ _ _ _ _ _ _
  rw [ea]
  refine r_callV (q := 27) (ci := 12) (As := [_]) dX10_saysTub_24 s_X10_saysTub_208 md_g0 rfl rfl rfl (Nat.le_of_ble_eq_true rfl) rfl rfl rfl (Nat.le_of_ble_eq_true rfl) (Nat.le_of_ble_eq_true rfl) ⟨(Nat.le_of_ble_eq_true rfl), (Nat.le_of_ble_eq_true rfl)⟩ rfl ?_
  refine ct_X10_saysNumber (a := a) (by omega) (by (try simp only [List.length_append]); omega) ?_
  show WF _ E Po _ _ _ _ _ _ _
  refine r_aload_n (q := 28) dX10_saysTub_27 rfl rfl rfl ?_
  refine r_ldcS (q := 30) (i := 40) dX10_saysTub_28 rfl rfl ?_
  refine r_callV (q := 33) (ci := 12) (As := [_]) dX10_saysTub_30 s_X10_saysTub_214 md_g0 rfl rfl rfl (Nat.le_of_ble_eq_true rfl) rfl rfl rfl (Nat.le_of_ble_eq_true rfl) (Nat.le_of_ble_eq_true rfl) ⟨(Nat.le_of_ble_eq_true rfl), (Nat.le_of_ble_eq_true rfl)⟩ rfl ?_
  refine ct_X10_says (i := 40) (by decide) (by (try simp only [List.length_append]); omega) ?_
  show WF _ E Po _ _ _ _ _ _ _
  refine r_aload_n (q := 34) dX10_saysTub_33 rfl rfl rfl ?_
  refine r_iload_n (q := 35) dX10_saysTub_34 rfl rfl rfl ?_
  refine r_iconst (q := 36) (v := 3) dX10_saysTub_35 rfl rfl ?_
  refine r_callV (q := 39) (ci := 12) (As := [_, _]) dX10_saysTub_36 s_X10_saysTub_93 md_g0 rfl rfl rfl (Nat.le_of_ble_eq_true rfl) rfl rfl rfl (Nat.le_of_ble_eq_true rfl) (Nat.le_of_ble_eq_true rfl) ⟨(Nat.le_of_ble_eq_true rfl), (Nat.le_of_ble_eq_true rfl)⟩ rfl ?_
  refine ct_X10_tub1 (k := 3) hj (by decide) ?_
  show WF _ E Po _ _ _ _ _ _ _
  rw [ea]
  refine r_if_le (q := 79) (q2 := 42) dX10_saysTub_39 (by decide) rfl (fun h39 => ?_) (fun h39 => ?_)
  · rw [if_pos h39] at hp
    refine r_vret dX10_saysTub_79 rfl (Nat.le_of_ble_eq_true rfl) (Nat.le_of_ble_eq_true rfl) ?_
    simp only [List.append_assoc, List.append_nil] at hp ⊢
    exact hp
  · rw [if_neg h39] at hp
    refine r_aload_n (q := 43) dX10_saysTub_42 rfl rfl rfl ?_
    refine r_ldcS (q := 45) (i := 39) dX10_saysTub_43 rfl rfl ?_
    refine r_callV (q := 48) (ci := 12) (As := [_]) dX10_saysTub_45 s_X10_saysTub_214 md_g0 rfl rfl rfl (Nat.le_of_ble_eq_true rfl) rfl rfl rfl (Nat.le_of_ble_eq_true rfl) (Nat.le_of_ble_eq_true rfl) ⟨(Nat.le_of_ble_eq_true rfl), (Nat.le_of_ble_eq_true rfl)⟩ rfl ?_
    refine ct_X10_says (i := 39) (by decide) (by (try simp only [List.length_append]); omega) ?_
    show WF _ E Po _ _ _ _ _ _ _
    refine r_aload_n (q := 49) dX10_saysTub_48 rfl rfl rfl ?_
    refine r_aload_n (q := 50) dX10_saysTub_49 rfl rfl rfl ?_
    refine r_iload_n (q := 51) dX10_saysTub_50 rfl rfl rfl ?_
    refine r_iconst (q := 52) (v := 4) dX10_saysTub_51 rfl rfl ?_
    refine r_callV (q := 55) (ci := 12) (As := [_, _]) dX10_saysTub_52 s_X10_saysTub_93 md_g0 rfl rfl rfl (Nat.le_of_ble_eq_true rfl) rfl rfl rfl (Nat.le_of_ble_eq_true rfl) (Nat.le_of_ble_eq_true rfl) ⟨(Nat.le_of_ble_eq_true rfl), (Nat.le_of_ble_eq_true rfl)⟩ rfl ?_
    refine ct_X10_tub1 (k := 4) hj (by decide) ?_
    show WF _ E Po _ _ _ _ _ _ _
    rw [eb]
    refine r_callV (q := 58) (ci := 12) (As := [_]) dX10_saysTub_55 s_X10_saysTub_208 md_g0 rfl rfl rfl (Nat.le_of_ble_eq_true rfl) rfl rfl rfl (Nat.le_of_ble_eq_true rfl) (Nat.le_of_ble_eq_true rfl) ⟨(Nat.le_of_ble_eq_true rfl), (Nat.le_of_ble_eq_true rfl)⟩ rfl ?_
    refine ct_X10_saysNumber (a := b) (by omega) (by (try simp only [List.length_append]); omega) ?_
    show WF _ E Po _ _ _ _ _ _ _
    refine r_aload_n (q := 59) dX10_saysTub_58 rfl rfl rfl ?_
    refine r_aload_n (q := 60) dX10_saysTub_59 rfl rfl rfl ?_
    refine r_iload_n (q := 61) dX10_saysTub_60 rfl rfl rfl ?_
    refine r_iconst (q := 62) (v := 5) dX10_saysTub_61 rfl rfl ?_
    refine r_callV (q := 65) (ci := 12) (As := [_, _]) dX10_saysTub_62 s_X10_saysTub_93 md_g0 rfl rfl rfl (Nat.le_of_ble_eq_true rfl) rfl rfl rfl (Nat.le_of_ble_eq_true rfl) (Nat.le_of_ble_eq_true rfl) ⟨(Nat.le_of_ble_eq_true rfl), (Nat.le_of_ble_eq_true rfl)⟩ rfl ?_
    refine ct_X10_tub1 (k := 5) hj (by decide) ?_
    show WF _ E Po _ _ _ _ _ _ _
    refine r_iconst (q := 66) (v := 1) dX10_saysTub_65 rfl rfl ?_
    refine r_icmp_ne (q := 74) (q2 := 69) dX10_saysTub_66 (by decide) rfl (fun h66 => ?_) (fun h66 => ?_)
    · rw [if_neg h66] at hp
      refine r_ldcS (q := 76) (i := 42) dX10_saysTub_74 rfl rfl ?_
      refine r_callV (q := 79) (ci := 12) (As := [_]) dX10_saysTub_76 s_X10_saysTub_214 md_g0 rfl rfl rfl (Nat.le_of_ble_eq_true rfl) rfl rfl rfl (Nat.le_of_ble_eq_true rfl) (Nat.le_of_ble_eq_true rfl) ⟨(Nat.le_of_ble_eq_true rfl), (Nat.le_of_ble_eq_true rfl)⟩ rfl ?_
      refine ct_X10_says (i := 42) (by decide) (by (try simp only [List.length_append]); omega) ?_
      show WF _ E Po _ _ _ _ _ _ _
      refine r_vret dX10_saysTub_79 rfl (Nat.le_of_ble_eq_true rfl) (Nat.le_of_ble_eq_true rfl) ?_
      simp only [List.append_assoc, List.append_nil] at hp ⊢
      exact hp
    · rw [if_pos h66] at hp
      refine r_ldcS (q := 71) (i := 41) dX10_saysTub_69 rfl rfl ?_
      refine r_goto (q := 76) dX10_saysTub_71 (by decide) ?_
      refine r_callV (q := 79) (ci := 12) (As := [_]) dX10_saysTub_76 s_X10_saysTub_214 md_g0 rfl rfl rfl (Nat.le_of_ble_eq_true rfl) rfl rfl rfl (Nat.le_of_ble_eq_true rfl) (Nat.le_of_ble_eq_true rfl) ⟨(Nat.le_of_ble_eq_true rfl), (Nat.le_of_ble_eq_true rfl)⟩ rfl ?_
      refine ct_X10_says (i := 41) (by decide) (by (try simp only [List.length_append]); omega) ?_
      show WF _ E Po _ _ _ _ _ _ _
      refine r_vret dX10_saysTub_79 rfl (Nat.le_of_ble_eq_true rfl) (Nat.le_of_ble_eq_true rfl) ?_
      simp only [List.append_assoc, List.append_nil] at hp ⊢
      exact hp
set_option maxRecDepth 100000 in
set_option maxHeartbeats 4000000 in
theorem ct_X10_line {E : xE} {Po : xPo} {w : xW} {m : Nat} {d : xCo} {r : mRs} {o : Nat → Int32} {t : mTx} {x : Int32} (hc : inL d) (hp : if okU d x then Po (.inl (some (.int (nI (lineL d x.toNatClampNeg).length)))) (lsW E w m d r (upd o 2 0) t (lineL d x.toNatClampNeg)) else Po (.inl (some (.int (0)))) (md E w m d r (upd o 2 1) t)) : Ct M_X10_line E [.ref m, .int x] (md E w m d r o t) Po := by
  refine Ct.of (ws2 := xAll) (L := [some (.ref m), some (.int x)]) (by decide +kernel) rfl rfl (List.forall_mem_cons.mpr ⟨rfl, List.forall_mem_cons.mpr ⟨rfl, fun _ h => absurd h List.not_mem_nil⟩⟩) (Nat.le_of_ble_eq_true rfl) rfl ?_
  refine r_aload_n (q := 1) dX10_line_0 rfl rfl rfl ?_
  refine r_aload_n (q := 2) dX10_line_1 rfl rfl rfl ?_
  refine r_iload_n (q := 3) dX10_line_2 rfl rfl rfl ?_
  refine r_callV (q := 6) (ci := 12) (As := [_]) dX10_line_3 s_X10_line_131 md_g0 rfl rfl rfl (Nat.le_of_ble_eq_true rfl) rfl rfl rfl (Nat.le_of_ble_eq_true rfl) (Nat.le_of_ble_eq_true rfl) ⟨(Nat.le_of_ble_eq_true rfl), (Nat.le_of_ble_eq_true rfl)⟩ rfl ?_
  refine ct_X10_isTent hc.1.1 (fun hx => ?_) (fun hx => ?_)
  · show WF _ E Po _ _ _ _ _ _ _
    rw [if_pos hx] at hp
    obtain ⟨u, hu, rfl⟩ := hx.ix
    rw [nI_cl (by omega)] at hp
    obtain ⟨q, hq, eq⟩ := hc.1.1.2.2.2 u hu
    have h1 := @digs_len u
    have h4 := @digs_len q
    have b37 : (byts 37).length = 1 := rfl
    have b38 : (byts 38).length = 7 := rfl
    have b43 : (byts 43).length = 2 := rfl
    have b44 : (byts 44).length = 2 := rfl
    refine r_if_eq (q := 13) (q2 := 9) dX10_line_6 (by decide) rfl (fun h9 => absurd h9 (by decide)) (fun _ => ?_)
    refine r_iconst (q := 10) (v := 0) dX10_line_9 rfl rfl ?_
    refine r_goto (q := 14) dX10_line_10 (by decide) ?_
    refine r_putfield (q := 17) dX10_line_14 f_X10_line_63 md_g0 rfl rfl (by exact Nat.le_of_ble_eq_true rfl) rfl ?_
    refine WF.cw (md_po (i := 2)) ?_
    refine r_aload_n (q := 18) dX10_line_17 rfl rfl rfl ?_
    refine r_getfield (q := 21) dX10_line_18 f_X10_line_63 md_g0 rfl rfl ?_
    refine r_if_le (q := 26) (q2 := 24) dX10_line_21 (by decide) rfl (fun _ => ?_) (fun h9 => absurd (show (0 : Int32) ≤ 0 by decide) h9)
    refine r_aload_n (q := 27) dX10_line_26 rfl rfl rfl ?_
    refine r_iconst (q := 28) (v := 0) dX10_line_27 rfl rfl ?_
    refine r_putfield (q := 31) dX10_line_28 f_X10_line_201 md_g0 rfl rfl (by exact Nat.le_of_ble_eq_true rfl) rfl ?_
    refine WF.cw (md_po (i := 6)) ?_
    refine WF.cw (show md E w m d r (upd (upd o 2 0) 6 0) t = lsW E w m d r (upd o 2 0) t [] from by
      show _ = md E w m d r (upd (upd o 2 0) 6 (nI 0)) (catF t.1 [], t.2)
      rw [catF_0]; rfl) ?_
    unfold lineL at hp
    rw [eq, nI_cl (by omega)] at hp
    refine r_aload_n (q := 32) dX10_line_31 rfl rfl rfl ?_
    refine r_iload_n (q := 33) dX10_line_32 rfl rfl rfl ?_
    refine r_callV (q := 36) (ci := 12) (As := [_]) dX10_line_33 s_X10_line_208 md_g0 rfl rfl rfl (Nat.le_of_ble_eq_true rfl) rfl rfl rfl (Nat.le_of_ble_eq_true rfl) (Nat.le_of_ble_eq_true rfl) ⟨(Nat.le_of_ble_eq_true rfl), (Nat.le_of_ble_eq_true rfl)⟩ rfl ?_
    refine ct_X10_saysNumber (a := u) (l := []) (by omega) (by simp only [List.length_nil]; omega) ?_
    show WF _ E Po _ _ _ _ _ _ _
    rw [List.nil_append]
    refine r_aload_n (q := 37) dX10_line_36 rfl rfl rfl ?_
    refine r_ldcS (q := 39) (i := 37) dX10_line_37 rfl rfl ?_
    refine r_callV (q := 42) (ci := 12) (As := [_]) dX10_line_39 s_X10_line_214 md_g0 rfl rfl rfl (Nat.le_of_ble_eq_true rfl) rfl rfl rfl (Nat.le_of_ble_eq_true rfl) (Nat.le_of_ble_eq_true rfl) ⟨(Nat.le_of_ble_eq_true rfl), (Nat.le_of_ble_eq_true rfl)⟩ rfl ?_
    refine ct_X10_says (i := 37) (by decide) (by (try simp only [List.length_append]); omega) ?_
    show WF _ E Po _ _ _ _ _ _ _
    refine r_aload_n (q := 43) dX10_line_42 rfl rfl rfl ?_
    refine r_iload_n (q := 44) dX10_line_43 rfl rfl rfl ?_
    refine r_iconst (q := 45) (v := 1) dX10_line_44 rfl rfl ?_
    refine r_callV (q := 48) (ci := 12) (As := [_, _]) dX10_line_45 s_X10_line_134 md_g0 rfl rfl rfl (Nat.le_of_ble_eq_true rfl) rfl rfl rfl (Nat.le_of_ble_eq_true rfl) (Nat.le_of_ble_eq_true rfl) ⟨(Nat.le_of_ble_eq_true rfl), (Nat.le_of_ble_eq_true rfl)⟩ rfl ?_
    refine ct_X10_tent1 (k := 1) hu (by decide) ?_
    show WF _ E Po _ _ _ _ _ _ _
    refine r_if_ge (q := 60) (q2 := 51) dX10_line_48 (by decide) rfl (fun h48 => ?_) (fun h48 => ?_)
    · rw [if_pos h48] at hp
      obtain ⟨j, hj, ej⟩ := hc.1.2.2.1 u hu h48
      rw [ej, nI_cl (by omega)] at hp
      obtain ⟨a, ha, ea⟩ := hc.2.1 j hj
      obtain ⟨b, hb, eb⟩ := hc.2.2.1 j hj
      have h5 := @tubL_len d j
      refine r_aload_n (q := 61) dX10_line_60 rfl rfl rfl ?_
      refine r_aload_n (q := 62) dX10_line_61 rfl rfl rfl ?_
      refine r_iload_n (q := 63) dX10_line_62 rfl rfl rfl ?_
      refine r_iconst (q := 64) (v := 1) dX10_line_63 rfl rfl ?_
      refine r_callV (q := 67) (ci := 12) (As := [_, _]) dX10_line_64 s_X10_line_134 md_g0 rfl rfl rfl (Nat.le_of_ble_eq_true rfl) rfl rfl rfl (Nat.le_of_ble_eq_true rfl) (Nat.le_of_ble_eq_true rfl) ⟨(Nat.le_of_ble_eq_true rfl), (Nat.le_of_ble_eq_true rfl)⟩ rfl ?_
      refine ct_X10_tent1 (k := 1) hu (by decide) ?_
      show WF _ E Po _ _ _ _ _ _ _
      rw [ej]
      refine r_callV (q := 70) (ci := 12) (As := [_]) dX10_line_67 s_X10_line_228 md_g0 rfl rfl rfl (Nat.le_of_ble_eq_true rfl) rfl rfl rfl (Nat.le_of_ble_eq_true rfl) (Nat.le_of_ble_eq_true rfl) ⟨(Nat.le_of_ble_eq_true rfl), (Nat.le_of_ble_eq_true rfl)⟩ rfl ?_
      refine ct_X10_saysTub hj ha ea hb eb (by (try simp only [List.length_append]); omega) ?_
      show WF _ E Po _ _ _ _ _ _ _
      refine r_aload_n (q := 71) dX10_line_70 rfl rfl rfl ?_
      refine r_iload_n (q := 72) dX10_line_71 rfl rfl rfl ?_
      refine r_iconst (q := 73) (v := 2) dX10_line_72 rfl rfl ?_
      refine r_callV (q := 76) (ci := 12) (As := [_, _]) dX10_line_73 s_X10_line_134 md_g0 rfl rfl rfl (Nat.le_of_ble_eq_true rfl) rfl rfl rfl (Nat.le_of_ble_eq_true rfl) (Nat.le_of_ble_eq_true rfl) ⟨(Nat.le_of_ble_eq_true rfl), (Nat.le_of_ble_eq_true rfl)⟩ rfl ?_
      refine ct_X10_tent1 (k := 2) hu (by decide) ?_
      show WF _ E Po _ _ _ _ _ _ _
      refine r_if_lt (q := 99) (q2 := 79) dX10_line_76 (by decide) rfl (fun h76 => ?_) (fun h76 => ?_)
      · rw [if_pos h76] at hp
        refine r_aload_n (q := 100) dX10_line_99 rfl rfl rfl ?_
        refine r_iload_n (q := 101) dX10_line_100 rfl rfl rfl ?_
        refine r_iconst (q := 102) (v := 4) dX10_line_101 rfl rfl ?_
        refine r_callV (q := 105) (ci := 12) (As := [_, _]) dX10_line_102 s_X10_line_134 md_g0 rfl rfl rfl (Nat.le_of_ble_eq_true rfl) rfl rfl rfl (Nat.le_of_ble_eq_true rfl) (Nat.le_of_ble_eq_true rfl) ⟨(Nat.le_of_ble_eq_true rfl), (Nat.le_of_ble_eq_true rfl)⟩ rfl ?_
        refine ct_X10_tent1 (k := 4) hu (by decide) ?_
        show WF _ E Po _ _ _ _ _ _ _
        rw [eq]
        refine r_if_le (q := 124) (q2 := 108) dX10_line_105 (by decide) rfl (fun h105 => ?_) (fun h105 => ?_)
        · rw [if_pos h105] at hp
          refine r_aload_n (q := 125) dX10_line_124 rfl rfl rfl ?_
          refine r_getfield (q := 128) dX10_line_125 f_X10_line_201 md_g0 rfl rfl ?_
          refine r_iret dX10_line_128 rfl (Nat.le_of_ble_eq_true rfl) (Nat.le_of_ble_eq_true rfl) ?_
          simp only [List.append_assoc, List.append_nil] at hp ⊢
          exact hp
        · rw [if_neg h105] at hp
          refine r_aload_n (q := 109) dX10_line_108 rfl rfl rfl ?_
          refine r_ldcS (q := 111) (i := 44) dX10_line_109 rfl rfl ?_
          refine r_callV (q := 114) (ci := 12) (As := [_]) dX10_line_111 s_X10_line_214 md_g0 rfl rfl rfl (Nat.le_of_ble_eq_true rfl) rfl rfl rfl (Nat.le_of_ble_eq_true rfl) (Nat.le_of_ble_eq_true rfl) ⟨(Nat.le_of_ble_eq_true rfl), (Nat.le_of_ble_eq_true rfl)⟩ rfl ?_
          refine ct_X10_says (i := 44) (by decide) (by (try simp only [List.length_append]); omega) ?_
          show WF _ E Po _ _ _ _ _ _ _
          refine r_aload_n (q := 115) dX10_line_114 rfl rfl rfl ?_
          refine r_aload_n (q := 116) dX10_line_115 rfl rfl rfl ?_
          refine r_iload_n (q := 117) dX10_line_116 rfl rfl rfl ?_
          refine r_iconst (q := 118) (v := 4) dX10_line_117 rfl rfl ?_
          refine r_callV (q := 121) (ci := 12) (As := [_, _]) dX10_line_118 s_X10_line_134 md_g0 rfl rfl rfl (Nat.le_of_ble_eq_true rfl) rfl rfl rfl (Nat.le_of_ble_eq_true rfl) (Nat.le_of_ble_eq_true rfl) ⟨(Nat.le_of_ble_eq_true rfl), (Nat.le_of_ble_eq_true rfl)⟩ rfl ?_
          refine ct_X10_tent1 (k := 4) hu (by decide) ?_
          show WF _ E Po _ _ _ _ _ _ _
          rw [eq]
          refine r_callV (q := 124) (ci := 12) (As := [_]) dX10_line_121 s_X10_line_208 md_g0 rfl rfl rfl (Nat.le_of_ble_eq_true rfl) rfl rfl rfl (Nat.le_of_ble_eq_true rfl) (Nat.le_of_ble_eq_true rfl) ⟨(Nat.le_of_ble_eq_true rfl), (Nat.le_of_ble_eq_true rfl)⟩ rfl ?_
          refine ct_X10_saysNumber (a := q) (by omega) (by (try simp only [List.length_append]); omega) ?_
          show WF _ E Po _ _ _ _ _ _ _
          refine r_aload_n (q := 125) dX10_line_124 rfl rfl rfl ?_
          refine r_getfield (q := 128) dX10_line_125 f_X10_line_201 md_g0 rfl rfl ?_
          refine r_iret dX10_line_128 rfl (Nat.le_of_ble_eq_true rfl) (Nat.le_of_ble_eq_true rfl) ?_
          simp only [List.append_assoc, List.append_nil] at hp ⊢
          exact hp
      · rw [if_neg h76] at hp
        obtain ⟨g, hg, eg⟩ := hc.1.2.2.2.1 u hu (Int32.not_lt.mp h76)
        rw [eg, nI_cl (by omega)] at hp
        obtain ⟨z, hz, ez⟩ := hc.2.2.2 g hg
        rw [ez, nI_cl (by omega)] at hp
        have h6 := @digs_len z
        refine r_aload_n (q := 80) dX10_line_79 rfl rfl rfl ?_
        refine r_ldcS (q := 82) (i := 43) dX10_line_80 rfl rfl ?_
        refine r_callV (q := 85) (ci := 12) (As := [_]) dX10_line_82 s_X10_line_214 md_g0 rfl rfl rfl (Nat.le_of_ble_eq_true rfl) rfl rfl rfl (Nat.le_of_ble_eq_true rfl) (Nat.le_of_ble_eq_true rfl) ⟨(Nat.le_of_ble_eq_true rfl), (Nat.le_of_ble_eq_true rfl)⟩ rfl ?_
        refine ct_X10_says (i := 43) (by decide) (by (try simp only [List.length_append]); omega) ?_
        show WF _ E Po _ _ _ _ _ _ _
        refine r_aload_n (q := 86) dX10_line_85 rfl rfl rfl ?_
        refine r_aload_n (q := 87) dX10_line_86 rfl rfl rfl ?_
        refine r_aload_n (q := 88) dX10_line_87 rfl rfl rfl ?_
        refine r_iload_n (q := 89) dX10_line_88 rfl rfl rfl ?_
        refine r_iconst (q := 90) (v := 2) dX10_line_89 rfl rfl ?_
        refine r_callV (q := 93) (ci := 12) (As := [_, _]) dX10_line_90 s_X10_line_134 md_g0 rfl rfl rfl (Nat.le_of_ble_eq_true rfl) rfl rfl rfl (Nat.le_of_ble_eq_true rfl) (Nat.le_of_ble_eq_true rfl) ⟨(Nat.le_of_ble_eq_true rfl), (Nat.le_of_ble_eq_true rfl)⟩ rfl ?_
        refine ct_X10_tent1 (k := 2) hu (by decide) ?_
        show WF _ E Po _ _ _ _ _ _ _
        rw [eg]
        refine r_callV (q := 96) (ci := 12) (As := [_]) dX10_line_93 s_X10_line_152 md_g0 rfl rfl rfl (Nat.le_of_ble_eq_true rfl) rfl rfl rfl (Nat.le_of_ble_eq_true rfl) (Nat.le_of_ble_eq_true rfl) ⟨(Nat.le_of_ble_eq_true rfl), (Nat.le_of_ble_eq_true rfl)⟩ rfl ?_
        refine ct_X10_gasOf hg ?_
        show WF _ E Po _ _ _ _ _ _ _
        rw [ez]
        refine r_callV (q := 99) (ci := 12) (As := [_]) dX10_line_96 s_X10_line_208 md_g0 rfl rfl rfl (Nat.le_of_ble_eq_true rfl) rfl rfl rfl (Nat.le_of_ble_eq_true rfl) (Nat.le_of_ble_eq_true rfl) ⟨(Nat.le_of_ble_eq_true rfl), (Nat.le_of_ble_eq_true rfl)⟩ rfl ?_
        refine ct_X10_saysNumber (a := z) (by omega) (by (try simp only [List.length_append]); omega) ?_
        show WF _ E Po _ _ _ _ _ _ _
        refine r_aload_n (q := 100) dX10_line_99 rfl rfl rfl ?_
        refine r_iload_n (q := 101) dX10_line_100 rfl rfl rfl ?_
        refine r_iconst (q := 102) (v := 4) dX10_line_101 rfl rfl ?_
        refine r_callV (q := 105) (ci := 12) (As := [_, _]) dX10_line_102 s_X10_line_134 md_g0 rfl rfl rfl (Nat.le_of_ble_eq_true rfl) rfl rfl rfl (Nat.le_of_ble_eq_true rfl) (Nat.le_of_ble_eq_true rfl) ⟨(Nat.le_of_ble_eq_true rfl), (Nat.le_of_ble_eq_true rfl)⟩ rfl ?_
        refine ct_X10_tent1 (k := 4) hu (by decide) ?_
        show WF _ E Po _ _ _ _ _ _ _
        rw [eq]
        refine r_if_le (q := 124) (q2 := 108) dX10_line_105 (by decide) rfl (fun h105 => ?_) (fun h105 => ?_)
        · rw [if_pos h105] at hp
          refine r_aload_n (q := 125) dX10_line_124 rfl rfl rfl ?_
          refine r_getfield (q := 128) dX10_line_125 f_X10_line_201 md_g0 rfl rfl ?_
          refine r_iret dX10_line_128 rfl (Nat.le_of_ble_eq_true rfl) (Nat.le_of_ble_eq_true rfl) ?_
          simp only [List.append_assoc, List.append_nil] at hp ⊢
          exact hp
        · rw [if_neg h105] at hp
          refine r_aload_n (q := 109) dX10_line_108 rfl rfl rfl ?_
          refine r_ldcS (q := 111) (i := 44) dX10_line_109 rfl rfl ?_
          refine r_callV (q := 114) (ci := 12) (As := [_]) dX10_line_111 s_X10_line_214 md_g0 rfl rfl rfl (Nat.le_of_ble_eq_true rfl) rfl rfl rfl (Nat.le_of_ble_eq_true rfl) (Nat.le_of_ble_eq_true rfl) ⟨(Nat.le_of_ble_eq_true rfl), (Nat.le_of_ble_eq_true rfl)⟩ rfl ?_
          refine ct_X10_says (i := 44) (by decide) (by (try simp only [List.length_append]); omega) ?_
          show WF _ E Po _ _ _ _ _ _ _
          refine r_aload_n (q := 115) dX10_line_114 rfl rfl rfl ?_
          refine r_aload_n (q := 116) dX10_line_115 rfl rfl rfl ?_
          refine r_iload_n (q := 117) dX10_line_116 rfl rfl rfl ?_
          refine r_iconst (q := 118) (v := 4) dX10_line_117 rfl rfl ?_
          refine r_callV (q := 121) (ci := 12) (As := [_, _]) dX10_line_118 s_X10_line_134 md_g0 rfl rfl rfl (Nat.le_of_ble_eq_true rfl) rfl rfl rfl (Nat.le_of_ble_eq_true rfl) (Nat.le_of_ble_eq_true rfl) ⟨(Nat.le_of_ble_eq_true rfl), (Nat.le_of_ble_eq_true rfl)⟩ rfl ?_
          refine ct_X10_tent1 (k := 4) hu (by decide) ?_
          show WF _ E Po _ _ _ _ _ _ _
          rw [eq]
          refine r_callV (q := 124) (ci := 12) (As := [_]) dX10_line_121 s_X10_line_208 md_g0 rfl rfl rfl (Nat.le_of_ble_eq_true rfl) rfl rfl rfl (Nat.le_of_ble_eq_true rfl) (Nat.le_of_ble_eq_true rfl) ⟨(Nat.le_of_ble_eq_true rfl), (Nat.le_of_ble_eq_true rfl)⟩ rfl ?_
          refine ct_X10_saysNumber (a := q) (by omega) (by (try simp only [List.length_append]); omega) ?_
          show WF _ E Po _ _ _ _ _ _ _
          refine r_aload_n (q := 125) dX10_line_124 rfl rfl rfl ?_
          refine r_getfield (q := 128) dX10_line_125 f_X10_line_201 md_g0 rfl rfl ?_
          refine r_iret dX10_line_128 rfl (Nat.le_of_ble_eq_true rfl) (Nat.le_of_ble_eq_true rfl) ?_
          simp only [List.append_assoc, List.append_nil] at hp ⊢
          exact hp
    · rw [if_neg h48] at hp
      refine r_aload_n (q := 52) dX10_line_51 rfl rfl rfl ?_
      refine r_ldcS (q := 54) (i := 38) dX10_line_52 rfl rfl ?_
      refine r_callV (q := 57) (ci := 12) (As := [_]) dX10_line_54 s_X10_line_214 md_g0 rfl rfl rfl (Nat.le_of_ble_eq_true rfl) rfl rfl rfl (Nat.le_of_ble_eq_true rfl) (Nat.le_of_ble_eq_true rfl) ⟨(Nat.le_of_ble_eq_true rfl), (Nat.le_of_ble_eq_true rfl)⟩ rfl ?_
      refine ct_X10_says (i := 38) (by decide) (by (try simp only [List.length_append]); omega) ?_
      show WF _ E Po _ _ _ _ _ _ _
      refine r_goto (q := 70) dX10_line_57 (by decide) ?_
      refine r_aload_n (q := 71) dX10_line_70 rfl rfl rfl ?_
      refine r_iload_n (q := 72) dX10_line_71 rfl rfl rfl ?_
      refine r_iconst (q := 73) (v := 2) dX10_line_72 rfl rfl ?_
      refine r_callV (q := 76) (ci := 12) (As := [_, _]) dX10_line_73 s_X10_line_134 md_g0 rfl rfl rfl (Nat.le_of_ble_eq_true rfl) rfl rfl rfl (Nat.le_of_ble_eq_true rfl) (Nat.le_of_ble_eq_true rfl) ⟨(Nat.le_of_ble_eq_true rfl), (Nat.le_of_ble_eq_true rfl)⟩ rfl ?_
      refine ct_X10_tent1 (k := 2) hu (by decide) ?_
      show WF _ E Po _ _ _ _ _ _ _
      refine r_if_lt (q := 99) (q2 := 79) dX10_line_76 (by decide) rfl (fun h76 => ?_) (fun h76 => ?_)
      · rw [if_pos h76] at hp
        refine r_aload_n (q := 100) dX10_line_99 rfl rfl rfl ?_
        refine r_iload_n (q := 101) dX10_line_100 rfl rfl rfl ?_
        refine r_iconst (q := 102) (v := 4) dX10_line_101 rfl rfl ?_
        refine r_callV (q := 105) (ci := 12) (As := [_, _]) dX10_line_102 s_X10_line_134 md_g0 rfl rfl rfl (Nat.le_of_ble_eq_true rfl) rfl rfl rfl (Nat.le_of_ble_eq_true rfl) (Nat.le_of_ble_eq_true rfl) ⟨(Nat.le_of_ble_eq_true rfl), (Nat.le_of_ble_eq_true rfl)⟩ rfl ?_
        refine ct_X10_tent1 (k := 4) hu (by decide) ?_
        show WF _ E Po _ _ _ _ _ _ _
        rw [eq]
        refine r_if_le (q := 124) (q2 := 108) dX10_line_105 (by decide) rfl (fun h105 => ?_) (fun h105 => ?_)
        · rw [if_pos h105] at hp
          refine r_aload_n (q := 125) dX10_line_124 rfl rfl rfl ?_
          refine r_getfield (q := 128) dX10_line_125 f_X10_line_201 md_g0 rfl rfl ?_
          refine r_iret dX10_line_128 rfl (Nat.le_of_ble_eq_true rfl) (Nat.le_of_ble_eq_true rfl) ?_
          simp only [List.append_assoc, List.append_nil] at hp ⊢
          exact hp
        · rw [if_neg h105] at hp
          refine r_aload_n (q := 109) dX10_line_108 rfl rfl rfl ?_
          refine r_ldcS (q := 111) (i := 44) dX10_line_109 rfl rfl ?_
          refine r_callV (q := 114) (ci := 12) (As := [_]) dX10_line_111 s_X10_line_214 md_g0 rfl rfl rfl (Nat.le_of_ble_eq_true rfl) rfl rfl rfl (Nat.le_of_ble_eq_true rfl) (Nat.le_of_ble_eq_true rfl) ⟨(Nat.le_of_ble_eq_true rfl), (Nat.le_of_ble_eq_true rfl)⟩ rfl ?_
          refine ct_X10_says (i := 44) (by decide) (by (try simp only [List.length_append]); omega) ?_
          show WF _ E Po _ _ _ _ _ _ _
          refine r_aload_n (q := 115) dX10_line_114 rfl rfl rfl ?_
          refine r_aload_n (q := 116) dX10_line_115 rfl rfl rfl ?_
          refine r_iload_n (q := 117) dX10_line_116 rfl rfl rfl ?_
          refine r_iconst (q := 118) (v := 4) dX10_line_117 rfl rfl ?_
          refine r_callV (q := 121) (ci := 12) (As := [_, _]) dX10_line_118 s_X10_line_134 md_g0 rfl rfl rfl (Nat.le_of_ble_eq_true rfl) rfl rfl rfl (Nat.le_of_ble_eq_true rfl) (Nat.le_of_ble_eq_true rfl) ⟨(Nat.le_of_ble_eq_true rfl), (Nat.le_of_ble_eq_true rfl)⟩ rfl ?_
          refine ct_X10_tent1 (k := 4) hu (by decide) ?_
          show WF _ E Po _ _ _ _ _ _ _
          rw [eq]
          refine r_callV (q := 124) (ci := 12) (As := [_]) dX10_line_121 s_X10_line_208 md_g0 rfl rfl rfl (Nat.le_of_ble_eq_true rfl) rfl rfl rfl (Nat.le_of_ble_eq_true rfl) (Nat.le_of_ble_eq_true rfl) ⟨(Nat.le_of_ble_eq_true rfl), (Nat.le_of_ble_eq_true rfl)⟩ rfl ?_
          refine ct_X10_saysNumber (a := q) (by omega) (by (try simp only [List.length_append]); omega) ?_
          show WF _ E Po _ _ _ _ _ _ _
          refine r_aload_n (q := 125) dX10_line_124 rfl rfl rfl ?_
          refine r_getfield (q := 128) dX10_line_125 f_X10_line_201 md_g0 rfl rfl ?_
          refine r_iret dX10_line_128 rfl (Nat.le_of_ble_eq_true rfl) (Nat.le_of_ble_eq_true rfl) ?_
          simp only [List.append_assoc, List.append_nil] at hp ⊢
          exact hp
      · rw [if_neg h76] at hp
        obtain ⟨g, hg, eg⟩ := hc.1.2.2.2.1 u hu (Int32.not_lt.mp h76)
        rw [eg, nI_cl (by omega)] at hp
        obtain ⟨z, hz, ez⟩ := hc.2.2.2 g hg
        rw [ez, nI_cl (by omega)] at hp
        have h6 := @digs_len z
        refine r_aload_n (q := 80) dX10_line_79 rfl rfl rfl ?_
        refine r_ldcS (q := 82) (i := 43) dX10_line_80 rfl rfl ?_
        refine r_callV (q := 85) (ci := 12) (As := [_]) dX10_line_82 s_X10_line_214 md_g0 rfl rfl rfl (Nat.le_of_ble_eq_true rfl) rfl rfl rfl (Nat.le_of_ble_eq_true rfl) (Nat.le_of_ble_eq_true rfl) ⟨(Nat.le_of_ble_eq_true rfl), (Nat.le_of_ble_eq_true rfl)⟩ rfl ?_
        refine ct_X10_says (i := 43) (by decide) (by (try simp only [List.length_append]); omega) ?_
        show WF _ E Po _ _ _ _ _ _ _
        refine r_aload_n (q := 86) dX10_line_85 rfl rfl rfl ?_
        refine r_aload_n (q := 87) dX10_line_86 rfl rfl rfl ?_
        refine r_aload_n (q := 88) dX10_line_87 rfl rfl rfl ?_
        refine r_iload_n (q := 89) dX10_line_88 rfl rfl rfl ?_
        refine r_iconst (q := 90) (v := 2) dX10_line_89 rfl rfl ?_
        refine r_callV (q := 93) (ci := 12) (As := [_, _]) dX10_line_90 s_X10_line_134 md_g0 rfl rfl rfl (Nat.le_of_ble_eq_true rfl) rfl rfl rfl (Nat.le_of_ble_eq_true rfl) (Nat.le_of_ble_eq_true rfl) ⟨(Nat.le_of_ble_eq_true rfl), (Nat.le_of_ble_eq_true rfl)⟩ rfl ?_
        refine ct_X10_tent1 (k := 2) hu (by decide) ?_
        show WF _ E Po _ _ _ _ _ _ _
        rw [eg]
        refine r_callV (q := 96) (ci := 12) (As := [_]) dX10_line_93 s_X10_line_152 md_g0 rfl rfl rfl (Nat.le_of_ble_eq_true rfl) rfl rfl rfl (Nat.le_of_ble_eq_true rfl) (Nat.le_of_ble_eq_true rfl) ⟨(Nat.le_of_ble_eq_true rfl), (Nat.le_of_ble_eq_true rfl)⟩ rfl ?_
        refine ct_X10_gasOf hg ?_
        show WF _ E Po _ _ _ _ _ _ _
        rw [ez]
        refine r_callV (q := 99) (ci := 12) (As := [_]) dX10_line_96 s_X10_line_208 md_g0 rfl rfl rfl (Nat.le_of_ble_eq_true rfl) rfl rfl rfl (Nat.le_of_ble_eq_true rfl) (Nat.le_of_ble_eq_true rfl) ⟨(Nat.le_of_ble_eq_true rfl), (Nat.le_of_ble_eq_true rfl)⟩ rfl ?_
        refine ct_X10_saysNumber (a := z) (by omega) (by (try simp only [List.length_append]); omega) ?_
        show WF _ E Po _ _ _ _ _ _ _
        refine r_aload_n (q := 100) dX10_line_99 rfl rfl rfl ?_
        refine r_iload_n (q := 101) dX10_line_100 rfl rfl rfl ?_
        refine r_iconst (q := 102) (v := 4) dX10_line_101 rfl rfl ?_
        refine r_callV (q := 105) (ci := 12) (As := [_, _]) dX10_line_102 s_X10_line_134 md_g0 rfl rfl rfl (Nat.le_of_ble_eq_true rfl) rfl rfl rfl (Nat.le_of_ble_eq_true rfl) (Nat.le_of_ble_eq_true rfl) ⟨(Nat.le_of_ble_eq_true rfl), (Nat.le_of_ble_eq_true rfl)⟩ rfl ?_
        refine ct_X10_tent1 (k := 4) hu (by decide) ?_
        show WF _ E Po _ _ _ _ _ _ _
        rw [eq]
        refine r_if_le (q := 124) (q2 := 108) dX10_line_105 (by decide) rfl (fun h105 => ?_) (fun h105 => ?_)
        · rw [if_pos h105] at hp
          refine r_aload_n (q := 125) dX10_line_124 rfl rfl rfl ?_
          refine r_getfield (q := 128) dX10_line_125 f_X10_line_201 md_g0 rfl rfl ?_
          refine r_iret dX10_line_128 rfl (Nat.le_of_ble_eq_true rfl) (Nat.le_of_ble_eq_true rfl) ?_
          simp only [List.append_assoc, List.append_nil] at hp ⊢
          exact hp
        · rw [if_neg h105] at hp
          refine r_aload_n (q := 109) dX10_line_108 rfl rfl rfl ?_
          refine r_ldcS (q := 111) (i := 44) dX10_line_109 rfl rfl ?_
          refine r_callV (q := 114) (ci := 12) (As := [_]) dX10_line_111 s_X10_line_214 md_g0 rfl rfl rfl (Nat.le_of_ble_eq_true rfl) rfl rfl rfl (Nat.le_of_ble_eq_true rfl) (Nat.le_of_ble_eq_true rfl) ⟨(Nat.le_of_ble_eq_true rfl), (Nat.le_of_ble_eq_true rfl)⟩ rfl ?_
          refine ct_X10_says (i := 44) (by decide) (by (try simp only [List.length_append]); omega) ?_
          show WF _ E Po _ _ _ _ _ _ _
          refine r_aload_n (q := 115) dX10_line_114 rfl rfl rfl ?_
          refine r_aload_n (q := 116) dX10_line_115 rfl rfl rfl ?_
          refine r_iload_n (q := 117) dX10_line_116 rfl rfl rfl ?_
          refine r_iconst (q := 118) (v := 4) dX10_line_117 rfl rfl ?_
          refine r_callV (q := 121) (ci := 12) (As := [_, _]) dX10_line_118 s_X10_line_134 md_g0 rfl rfl rfl (Nat.le_of_ble_eq_true rfl) rfl rfl rfl (Nat.le_of_ble_eq_true rfl) (Nat.le_of_ble_eq_true rfl) ⟨(Nat.le_of_ble_eq_true rfl), (Nat.le_of_ble_eq_true rfl)⟩ rfl ?_
          refine ct_X10_tent1 (k := 4) hu (by decide) ?_
          show WF _ E Po _ _ _ _ _ _ _
          rw [eq]
          refine r_callV (q := 124) (ci := 12) (As := [_]) dX10_line_121 s_X10_line_208 md_g0 rfl rfl rfl (Nat.le_of_ble_eq_true rfl) rfl rfl rfl (Nat.le_of_ble_eq_true rfl) (Nat.le_of_ble_eq_true rfl) ⟨(Nat.le_of_ble_eq_true rfl), (Nat.le_of_ble_eq_true rfl)⟩ rfl ?_
          refine ct_X10_saysNumber (a := q) (by omega) (by (try simp only [List.length_append]); omega) ?_
          show WF _ E Po _ _ _ _ _ _ _
          refine r_aload_n (q := 125) dX10_line_124 rfl rfl rfl ?_
          refine r_getfield (q := 128) dX10_line_125 f_X10_line_201 md_g0 rfl rfl ?_
          refine r_iret dX10_line_128 rfl (Nat.le_of_ble_eq_true rfl) (Nat.le_of_ble_eq_true rfl) ?_
          simp only [List.append_assoc, List.append_nil] at hp ⊢
          exact hp
  · show WF _ E Po _ _ _ _ _ _ _
    rw [if_neg hx] at hp
    refine r_if_eq (q := 13) (q2 := 9) dX10_line_6 (by decide) rfl (fun _ => ?_) (fun h9 => absurd rfl h9)
    refine r_iconst (q := 14) (v := 1) dX10_line_13 rfl rfl ?_
    refine r_putfield (q := 17) dX10_line_14 f_X10_line_63 md_g0 rfl rfl (by exact Nat.le_of_ble_eq_true rfl) rfl ?_
    refine WF.cw (md_po (i := 2)) ?_
    refine r_aload_n (q := 18) dX10_line_17 rfl rfl rfl ?_
    refine r_getfield (q := 21) dX10_line_18 f_X10_line_63 md_g0 rfl rfl ?_
    refine r_if_le (q := 26) (q2 := 24) dX10_line_21 (by decide) rfl (fun h9 => absurd h9 (show ¬ ((1 : Int32) ≤ 0) by decide)) (fun _ => ?_)
    refine r_iconst (q := 25) (v := 0) dX10_line_24 rfl rfl ?_
    refine r_iret dX10_line_25 rfl (Nat.le_of_ble_eq_true rfl) (Nat.le_of_ble_eq_true rfl) ?_
    exact hp
