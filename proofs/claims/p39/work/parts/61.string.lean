/-! ===== 61.string: texts that are made (rows laid by wip/p39/gen/make61.py) ===== -/
theorem mn_nI2 {a b : Nat} (h : a ≤ b) (hb : b < 2 ^ 31) : (if nI a < nI b then nI a else nI b) = nI a := by
  by_cases e : a < b
  · exact if_pos (nI_lt e hb)
  · rw [if_neg (nI_nlt (by omega) (by omega)), show b = a by omega]
/-- a text's signs -/
def hasX (f : Nat → Int32) (l : List Int32) : Prop := l.length ≤ 60 ∧ (∀ j, j < l.length → f j = l.getD j 0) ∧ (∀ x ∈ l, okB x) ∧ sb_Fit f
def stE (va : Nat) : va_E := .inr (0, [.ref va, .int 0, .int 0, .int 0])
/-- a text at s, its bytes at va -/
def TS (E : xE) (w : xW) (s va : Nat) (f : Nat → Int32) (l : List Int32) : Prop := w.1 s = some (stE va) ∧ w.1 va = some (.inl (E.1.2 7, l.length, .inl f))
set_option maxRecDepth 100000 in
set_option maxHeartbeats 4000000 in
theorem hs_coder {E : xE} {Po : xPo} {w : xW} {s va : Nat} {f : Nat → Int32} {l : List Int32} (T : TS E w s va f l) (hp : Po (.inl (some (.int 0))) w) : Ct M_J0_coder_7d493 E [.ref s] w Po := by
  refine Ct.of (ws2 := xAll) (L := [some (.ref s)]) (by decide +kernel) rfl rfl (List.forall_mem_cons.mpr ⟨rfl, fun _ h => absurd h List.not_mem_nil⟩) (Nat.le_of_ble_eq_true rfl) rfl ?_
  refine r_gets (q := 3) dJ0_coder_7d493_0 g_J0_coder_7d493_38 (k_cs) rfl ?_
  refine r_if_eq (q := 13) (q2 := 6) dJ0_coder_7d493_3 (by decide) rfl (fun h9 => absurd h9 (by decide)) (fun _ => ?_)
  refine r_aload_n (q := 7) dJ0_coder_7d493_6 rfl rfl rfl ?_
  refine r_getfield (q := 10) dJ0_coder_7d493_7 f_J0_coder_7d493_15 T.1 rfl rfl ?_
  refine r_goto (q := 14) dJ0_coder_7d493_10 (by decide) ?_
  refine r_zret dJ0_coder_7d493_14 rfl (by decide) (Nat.le_of_ble_eq_true rfl) (Nat.le_of_ble_eq_true rfl) ?_
  exact hp
set_option maxRecDepth 100000 in
set_option maxHeartbeats 4000000 in
theorem hs_isLatin1 {E : xE} {Po : xPo} {w : xW} {s va : Nat} {f : Nat → Int32} {l : List Int32} (T : TS E w s va f l) (hp : Po (.inl (some (.int 1))) w) : Ct M_J0_isLatin1_aae02 E [.ref s] w Po := by
  refine Ct.of (ws2 := xAll) (L := [some (.ref s)]) (by decide +kernel) rfl rfl (List.forall_mem_cons.mpr ⟨rfl, fun _ h => absurd h List.not_mem_nil⟩) (Nat.le_of_ble_eq_true rfl) rfl ?_
  refine r_gets (q := 3) dJ0_isLatin1_aae02_0 g_J0_isLatin1_aae02_38 (k_cs) rfl ?_
  refine r_if_eq (q := 17) (q2 := 6) dJ0_isLatin1_aae02_3 (by decide) rfl (fun h9 => absurd h9 (by decide)) (fun _ => ?_)
  refine r_aload_n (q := 7) dJ0_isLatin1_aae02_6 rfl rfl rfl ?_
  refine r_getfield (q := 10) dJ0_isLatin1_aae02_7 f_J0_isLatin1_aae02_15 T.1 rfl rfl ?_
  refine r_if_ne (q := 17) (q2 := 13) dJ0_isLatin1_aae02_10 (by decide) rfl (fun h9 => absurd rfl h9) (fun _ => ?_)
  refine r_iconst (q := 14) (v := 1) dJ0_isLatin1_aae02_13 rfl rfl ?_
  refine r_goto (q := 18) dJ0_isLatin1_aae02_14 (by decide) ?_
  refine r_zret dJ0_isLatin1_aae02_18 rfl (by decide) (Nat.le_of_ble_eq_true rfl) (Nat.le_of_ble_eq_true rfl) ?_
  exact hp
set_option maxRecDepth 100000 in
set_option maxHeartbeats 4000000 in
theorem hs_length {E : xE} {Po : xPo} {w : xW} {s va : Nat} {f : Nat → Int32} {l : List Int32} (T : TS E w s va f l) (hp : Po (.inl (some (.int (nI l.length)))) w) : Ct M_J0_length_8abf5 E [.ref s] w Po := by
  refine Ct.of (ws2 := xAll) (L := [some (.ref s)]) (by decide +kernel) rfl rfl (List.forall_mem_cons.mpr ⟨rfl, fun _ h => absurd h List.not_mem_nil⟩) (Nat.le_of_ble_eq_true rfl) rfl ?_
  refine r_aload_n (q := 1) dJ0_length_8abf5_0 rfl rfl rfl ?_
  refine r_getfield (q := 4) dJ0_length_8abf5_1 f_J0_length_8abf5_9 T.1 rfl rfl ?_
  refine r_alen (q := 5) (t0 := 7) dJ0_length_8abf5_4 rfl T.2 rfl ?_
  show WF _ E Po _ _ _ (.int (nI l.length) :: _) _ _ _
  refine r_aload_n (q := 6) dJ0_length_8abf5_5 rfl rfl rfl ?_
  refine r_callV (q := 9) (ci := 0) (As := []) dJ0_length_8abf5_6 s_J0_length_8abf5_335 T.1 rfl rfl rfl (Nat.le_of_ble_eq_true rfl) rfl rfl rfl (Nat.le_of_ble_eq_true rfl) (Nat.le_of_ble_eq_true rfl) ⟨(Nat.le_of_ble_eq_true rfl), (Nat.le_of_ble_eq_true rfl)⟩ rfl ?_
  refine hs_coder T ?_
  show WF _ E Po _ _ _ _ _ _ _
  refine r_ishr (q := 10) dJ0_length_8abf5_9 rfl ?_
  rw [x_sh0]
  refine r_iret dJ0_length_8abf5_10 rfl (Nat.le_of_ble_eq_true rfl) (Nat.le_of_ble_eq_true rfl) ?_
  exact hp
set_option maxRecDepth 100000 in
set_option maxHeartbeats 4000000 in
theorem hs_charAt1 {E : xE} {Po : xPo} {w : xW} {s va : Nat} {f : Nat → Int32} {l : List Int32} (T : TS E w s va f l) (X : hasX f l) {j : Nat} (hj : j < l.length) (hp : Po (.inl (some (.int (l.getD j 0)))) w) : Ct M_J1_charAt_3b067 E [.ref va, .int (nI j)] w Po := by
  refine Ct.of (ws2 := xAll) (L := [some (.ref va), some (.int (nI j))]) (by decide +kernel) rfl rfl (List.forall_mem_cons.mpr ⟨rfl, List.forall_mem_cons.mpr ⟨rfl, fun _ h => absurd h List.not_mem_nil⟩⟩) (Nat.le_of_ble_eq_true rfl) rfl ?_
  have h60 := X.1
  have hB : okB (l.getD j 0) := by
    rw [List.getD_eq_getElem?_getD, List.getElem?_eq_getElem hj, Option.getD_some]
    exact X.2.2.1 _ (List.getElem_mem hj)
  refine r_iload_n (q := 1) dJ1_charAt_3b067_0 rfl rfl rfl ?_
  refine r_aload_n (q := 2) dJ1_charAt_3b067_1 rfl rfl rfl ?_
  refine r_alen (q := 3) (t0 := 7) dJ1_charAt_3b067_2 rfl T.2 rfl ?_
  show WF _ E Po _ _ _ (.int (nI l.length) :: _) _ _ _
  refine r_callS (q := 6) (As := [_, _]) dJ1_charAt_3b067_3 s_J1_charAt_3b067_9 rfl rfl (Nat.le_of_ble_eq_true rfl) rfl rfl rfl (Nat.le_of_ble_eq_true rfl) (Nat.le_of_ble_eq_true rfl) ⟨(Nat.le_of_ble_eq_true rfl), (Nat.le_of_ble_eq_true rfl)⟩ rfl ?_
  refine ct_J0_checkIndex_df160 (nI_pos (by omega)) (nI_lt hj (by omega)) ?_
  show WF _ E Po _ _ _ _ _ _ _
  refine r_aload_n (q := 7) dJ1_charAt_3b067_6 rfl rfl rfl ?_
  refine r_iload_n (q := 8) dJ1_charAt_3b067_7 rfl rfl rfl ?_
  refine r_baload (q := 9) dJ1_charAt_3b067_8 T.2 (vp_in_nI hj (by omega)) rfl ?_
  rw [nI_cl (by omega), X.2.1 j hj]
  refine r_sipush (q := 12) (v := 255) dJ1_charAt_3b067_9 (by decide) rfl ?_
  refine r_iand (q := 13) dJ1_charAt_3b067_12 rfl ?_
  refine r_i2c (q := 14) dJ1_charAt_3b067_13 rfl ?_
  rw [hB.1]
  refine r_zret dJ1_charAt_3b067_14 rfl hB.2.1 (Nat.le_of_ble_eq_true rfl) (Nat.le_of_ble_eq_true rfl) ?_
  exact hp
set_option maxRecDepth 100000 in
set_option maxHeartbeats 4000000 in
theorem hs_charAt {E : xE} {Po : xPo} {w : xW} {s va : Nat} {f : Nat → Int32} {l : List Int32} (T : TS E w s va f l) (X : hasX f l) {j : Nat} (hj : j < l.length) (hp : Po (.inl (some (.int (l.getD j 0)))) w) : Ct M_J0_charAt_5068e E [.ref s, .int (nI j)] w Po := by
  refine Ct.of (ws2 := xAll) (L := [some (.ref s), some (.int (nI j))]) (by decide +kernel) rfl rfl (List.forall_mem_cons.mpr ⟨rfl, List.forall_mem_cons.mpr ⟨rfl, fun _ h => absurd h List.not_mem_nil⟩⟩) (Nat.le_of_ble_eq_true rfl) rfl ?_
  refine r_aload_n (q := 1) dJ0_charAt_5068e_0 rfl rfl rfl ?_
  refine r_callV (q := 4) (ci := 0) (As := []) dJ0_charAt_5068e_1 s_J0_charAt_5068e_492 T.1 rfl rfl rfl (Nat.le_of_ble_eq_true rfl) rfl rfl rfl (Nat.le_of_ble_eq_true rfl) (Nat.le_of_ble_eq_true rfl) ⟨(Nat.le_of_ble_eq_true rfl), (Nat.le_of_ble_eq_true rfl)⟩ rfl ?_
  refine hs_isLatin1 T ?_
  show WF _ E Po _ _ _ _ _ _ _
  refine r_if_eq (q := 16) (q2 := 7) dJ0_charAt_5068e_4 (by decide) rfl (fun h9 => absurd h9 (by decide)) (fun _ => ?_)
  refine r_aload_n (q := 8) dJ0_charAt_5068e_7 rfl rfl rfl ?_
  refine r_getfield (q := 11) dJ0_charAt_5068e_8 f_J0_charAt_5068e_9 T.1 rfl rfl ?_
  refine r_iload_n (q := 12) dJ0_charAt_5068e_11 rfl rfl rfl ?_
  refine r_callS (q := 15) (As := [_, _]) dJ0_charAt_5068e_12 s_J0_charAt_5068e_495 rfl rfl (Nat.le_of_ble_eq_true rfl) rfl rfl rfl (Nat.le_of_ble_eq_true rfl) (Nat.le_of_ble_eq_true rfl) ⟨(Nat.le_of_ble_eq_true rfl), (Nat.le_of_ble_eq_true rfl)⟩ rfl ?_
  refine hs_charAt1 T X hj ?_
  show WF _ E Po _ _ _ _ _ _ _
  refine r_zret dJ0_charAt_5068e_15 rfl (by
    rw [List.getD_eq_getElem?_getD, List.getElem?_eq_getElem hj, Option.getD_some]
    exact (X.2.2.1 _ (List.getElem_mem hj)).2.1) (Nat.le_of_ble_eq_true rfl) (Nat.le_of_ble_eq_true rfl) ?_
  exact hp
set_option maxRecDepth 100000 in
set_option maxHeartbeats 4000000 in
theorem hs_inflate {E : xE} {Po : xPo} {w : xW} {b : Nat} {va cap : Nat} {ml ct : Int32} {f : Nat → Int32} (H : HB E w b (va, cap, ml, ct, f)) {s va9 : Nat} {f9 : Nat → Int32} {l9 : List Int32} (T : TS E w s va9 f9 l9) (hp : Po (.inl none) w) : Ct M_J5_inflateIfNeededFor_a7421 E [.ref b, .ref s] w Po := by
  refine Ct.of (ws2 := xAll) (L := [some (.ref b), some (.ref s)]) (by decide +kernel) rfl rfl (List.forall_mem_cons.mpr ⟨rfl, List.forall_mem_cons.mpr ⟨rfl, fun _ h => absurd h List.not_mem_nil⟩⟩) (Nat.le_of_ble_eq_true rfl) rfl ?_
  refine r_gets (q := 3) dJ5_inflateIfNeededFor_a7421_0 g_J5_inflateIfNeededFor_a7421_18 (k_cs) rfl ?_
  refine r_if_eq (q := 21) (q2 := 6) dJ5_inflateIfNeededFor_a7421_3 (by decide) rfl (fun h9 => absurd h9 (by decide)) (fun _ => ?_)
  refine r_aload_n (q := 7) dJ5_inflateIfNeededFor_a7421_6 rfl rfl rfl ?_
  refine r_getfS (q := 10) dJ5_inflateIfNeededFor_a7421_7 f_J5_inflateIfNeededFor_a7421_22 H.1 rfl rfl ?_
  refine r_aload_n (q := 11) dJ5_inflateIfNeededFor_a7421_10 rfl rfl rfl ?_
  refine r_callV (q := 14) (ci := 0) (As := []) dJ5_inflateIfNeededFor_a7421_11 s_J5_inflateIfNeededFor_a7421_40 T.1 rfl rfl rfl (Nat.le_of_ble_eq_true rfl) rfl rfl rfl (Nat.le_of_ble_eq_true rfl) (Nat.le_of_ble_eq_true rfl) ⟨(Nat.le_of_ble_eq_true rfl), (Nat.le_of_ble_eq_true rfl)⟩ rfl ?_
  refine hs_coder T ?_
  show WF _ E Po _ _ _ _ _ _ _
  refine r_icmp_eq (q := 21) (q2 := 17) dJ5_inflateIfNeededFor_a7421_14 (by decide) rfl (fun _ => ?_) (fun h9 => absurd rfl h9)
  refine r_vret dJ5_inflateIfNeededFor_a7421_21 rfl (Nat.le_of_ble_eq_true rfl) (Nat.le_of_ble_eq_true rfl) ?_
  exact hp
theorem yw0 : (Jvm.Cond.fieldLink "java/lang/String" (9 : Nat) "java/lang/String" "value" "[B") ∈ xAll := xin5 (List.mem_of_getElem? (i := 131) (by decide +kernel)) (by decide +kernel)
theorem f_J0_getBytes_840e7_9 : xFld M_J0_getBytes_840e7 9 0 0 true (tyJ0 0) := ⟨RJ0, TJ0, 4, tyJ0, rfl, by decide, fun w h => List.mem_cons_of_mem _ (inJ0 w h), List.mem_cons_of_mem _ (yw0), tyJ0_ok, nmJ0, rfl, rfl, rfl⟩
set_option maxRecDepth 100000 in
set_option maxHeartbeats 4000000 in
theorem hs_getBytes {E : xE} {Po : xPo} {w : xW} {vb cap n : Nat} {g : Nat → Int32} {s va : Nat} {f : Nat → Int32} {l : List Int32} (T : TS E w s va f l) (X : hasX f l) (hw : w.1 vb = some (.inl (E.1.2 7, cap, .inl g))) (hc : n + l.length ≤ cap) (hb : cap < 1000) (hp : Po (.inl none) (xset w vb (.inl (E.1.2 7, cap, .inl (va_cpy f g 0 n l.length))))) : Ct M_J0_getBytes_840e7 E [.ref s, .ref vb, .int (nI n), .int 0] w Po := by
  refine Ct.of (ws2 := xAll) (L := [some (.ref s), some (.ref vb), some (.int (nI n)), some (.int 0)]) (by decide +kernel) rfl rfl (List.forall_mem_cons.mpr ⟨rfl, List.forall_mem_cons.mpr ⟨rfl, List.forall_mem_cons.mpr ⟨rfl, List.forall_mem_cons.mpr ⟨rfl, fun _ h => absurd h List.not_mem_nil⟩⟩⟩⟩) (Nat.le_of_ble_eq_true rfl) rfl ?_
  have h60 := X.1
  refine r_aload_n (q := 1) dJ0_getBytes_840e7_0 rfl rfl rfl ?_
  refine r_callV (q := 4) (ci := 0) (As := []) dJ0_getBytes_840e7_1 s_J0_getBytes_840e7_335 T.1 rfl rfl rfl (Nat.le_of_ble_eq_true rfl) rfl rfl rfl (Nat.le_of_ble_eq_true rfl) (Nat.le_of_ble_eq_true rfl) ⟨(Nat.le_of_ble_eq_true rfl), (Nat.le_of_ble_eq_true rfl)⟩ rfl ?_
  refine hs_coder T ?_
  show WF _ E Po _ _ _ _ _ _ _
  refine r_iload_n (q := 5) dJ0_getBytes_840e7_4 rfl rfl rfl ?_
  refine r_icmp_ne (q := 28) (q2 := 8) dJ0_getBytes_840e7_5 (by decide) rfl (fun h9 => absurd rfl h9) (fun _ => ?_)
  refine r_aload_n (q := 9) dJ0_getBytes_840e7_8 rfl rfl rfl ?_
  refine r_getfield (q := 12) dJ0_getBytes_840e7_9 f_J0_getBytes_840e7_9 T.1 rfl rfl ?_
  refine r_iconst (q := 13) (v := 0) dJ0_getBytes_840e7_12 rfl rfl ?_
  refine r_aload_n (q := 14) dJ0_getBytes_840e7_13 rfl rfl rfl ?_
  refine r_iload_n (q := 15) dJ0_getBytes_840e7_14 rfl rfl rfl ?_
  refine r_iload_n (q := 16) dJ0_getBytes_840e7_15 rfl rfl rfl ?_
  refine r_ishl (q := 17) dJ0_getBytes_840e7_16 rfl ?_
  rw [sb_shl0]
  refine r_aload_n (q := 18) dJ0_getBytes_840e7_17 rfl rfl rfl ?_
  refine r_getfield (q := 21) dJ0_getBytes_840e7_18 f_J0_getBytes_840e7_9 T.1 rfl rfl ?_
  refine r_alen (q := 22) (t0 := 7) dJ0_getBytes_840e7_21 rfl T.2 rfl ?_
  show WF _ E Po _ _ _ (.int (nI l.length) :: _) _ _ _
  refine r_copyb (q := 25) dJ0_getBytes_840e7_22 a_J0_getBytes_840e7_212 T.2 hw X.2.2.2 (sa := 0) (da := n) (na := l.length) rfl rfl rfl (by omega) hc ⟨by omega, by omega⟩ (Nat.le_of_ble_eq_true rfl) rfl ?_
  refine r_goto (q := 43) dJ0_getBytes_840e7_25 (by decide) ?_
  refine r_vret dJ0_getBytes_840e7_43 rfl (Nat.le_of_ble_eq_true rfl) (Nat.le_of_ble_eq_true rfl) ?_
  exact hp
set_option maxRecDepth 100000 in
set_option maxHeartbeats 4000000 in
theorem hs_putStringAt {E : xE} {Po : xPo} {w : xW} {b : Nat} {va cap : Nat} {ml ct : Int32} {f : Nat → Int32} (H : HB E w b (va, cap, ml, ct, f)) {s va9 : Nat} {f9 : Nat → Int32} {l9 : List Int32} (T : TS E w s va9 f9 l9) (X : hasX f9 l9) {n : Nat} (hc : n + l9.length ≤ cap) (hb : cap < 1000) (hp : Po (.inl none) (xset w va (.inl (E.1.2 7, cap, .inl (va_cpy f9 f 0 n l9.length))))) : Ct M_J5_putStringAt_47b60 E [.ref b, .int (nI n), .ref s] w Po := by
  refine Ct.of (ws2 := xPv ++ xAll) (L := [some (.ref b), some (.int (nI n)), some (.ref s)]) (by decide +kernel) rfl rfl (List.forall_mem_cons.mpr ⟨rfl, List.forall_mem_cons.mpr ⟨rfl, List.forall_mem_cons.mpr ⟨rfl, fun _ h => absurd h List.not_mem_nil⟩⟩⟩) (Nat.le_of_ble_eq_true rfl) rfl ?_
  refine r_aload_n (q := 1) dJ5_putStringAt_47b60_0 rfl rfl rfl ?_
  refine r_aload_n (q := 2) dJ5_putStringAt_47b60_1 rfl rfl rfl ?_
  refine r_callP (q := 5) (ci := 1) (As := [_]) dJ5_putStringAt_47b60_2 s_J5_putStringAt_47b60_397 H.1 rfl rfl (Nat.le_of_ble_eq_true rfl) rfl rfl rfl (Nat.le_of_ble_eq_true rfl) (Nat.le_of_ble_eq_true rfl) ⟨(Nat.le_of_ble_eq_true rfl), (Nat.le_of_ble_eq_true rfl)⟩ rfl ?_
  refine hs_inflate H T ?_
  show WF _ E Po _ _ _ _ _ _ _
  refine r_aload_n (q := 6) dJ5_putStringAt_47b60_5 rfl rfl rfl ?_
  refine r_aload_n (q := 7) dJ5_putStringAt_47b60_6 rfl rfl rfl ?_
  refine r_getfS (q := 10) dJ5_putStringAt_47b60_7 f_J5_putStringAt_47b60_15 H.1 rfl rfl ?_
  refine r_iload_n (q := 11) dJ5_putStringAt_47b60_10 rfl rfl rfl ?_
  refine r_aload_n (q := 12) dJ5_putStringAt_47b60_11 rfl rfl rfl ?_
  refine r_getfS (q := 15) dJ5_putStringAt_47b60_12 f_J5_putStringAt_47b60_22 H.1 rfl rfl ?_
  refine r_callV (q := 18) (ci := 0) (As := [_, _, _]) dJ5_putStringAt_47b60_15 s_J5_putStringAt_47b60_399 T.1 rfl rfl rfl (Nat.le_of_ble_eq_true rfl) rfl rfl rfl (Nat.le_of_ble_eq_true rfl) (Nat.le_of_ble_eq_true rfl) ⟨(Nat.le_of_ble_eq_true rfl), (Nat.le_of_ble_eq_true rfl)⟩ rfl ?_
  refine hs_getBytes T X H.2.1 hc hb ?_
  show WF _ E Po _ _ _ _ _ _ _
  refine r_vret dJ5_putStringAt_47b60_18 rfl (Nat.le_of_ble_eq_true rfl) (Nat.le_of_ble_eq_true rfl) ?_
  exact hp
set_option maxRecDepth 100000 in
set_option maxHeartbeats 4000000 in
theorem hs_append5 {E : xE} {Po : xPo} {w : xW} {b : Nat} {va cap : Nat} {ml ct : Int32} {f : Nat → Int32} (H : HB E w b (va, cap, ml, ct, f)) {l : List Int32} (hL : hasL (va, cap, ml, ct, f) l) {s va9 : Nat} {f9 : Nat → Int32} {l9 : List Int32} (T : TS E w s va9 f9 l9) (X : hasX f9 l9) (hs : s ≠ b ∧ s ≠ va ∧ s < w.2) (hv : va9 ≠ b ∧ va9 ≠ va ∧ va9 < w.2) (hl : l.length + l9.length ≤ 60) (hp : ∀ (u : xW) (B2 : xBd), HB E u b B2 → hasL B2 (l ++ l9) → FB w u b (va, cap, ml, ct, f) B2 → Po (.inl (some (.ref b))) u) : Ct M_J5_append_cf1ce E [.ref b, .ref s] w Po := by
  refine Ct.of (ws2 := xPv ++ xAll) (L := [some (.ref b), some (.ref s), none]) (by decide +kernel) rfl rfl (List.forall_mem_cons.mpr ⟨rfl, List.forall_mem_cons.mpr ⟨rfl, fun _ h => absurd h List.not_mem_nil⟩⟩) (Nat.le_of_ble_eq_true rfl) rfl ?_
  obtain rfl : ct = nI l.length := hL.1
  refine r_aload_n (q := 1) dJ5_append_cf1ce_0 rfl rfl rfl ?_
  refine r_ifnonnull (q := 9) dJ5_append_cf1ce_1 (by decide) ?_
  refine r_aload_n (q := 10) dJ5_append_cf1ce_9 rfl rfl rfl ?_
  refine r_callV (q := 13) (ci := 0) (As := []) dJ5_append_cf1ce_10 s_J5_append_cf1ce_32 T.1 rfl rfl rfl (Nat.le_of_ble_eq_true rfl) rfl rfl rfl (Nat.le_of_ble_eq_true rfl) (Nat.le_of_ble_eq_true rfl) ⟨(Nat.le_of_ble_eq_true rfl), (Nat.le_of_ble_eq_true rfl)⟩ rfl ?_
  refine hs_length T ?_
  show WF _ E Po _ _ _ _ _ _ _
  refine r_istore_n (q := 14) dJ5_append_cf1ce_13 rfl (Nat.le_of_ble_eq_true rfl) (xone_of rfl) rfl ?_
  refine r_aload_n (q := 15) dJ5_append_cf1ce_14 rfl rfl rfl ?_
  refine r_aload_n (q := 16) dJ5_append_cf1ce_15 rfl rfl rfl ?_
  refine r_getfS (q := 19) dJ5_append_cf1ce_16 f_J5_append_cf1ce_79 H.1 rfl rfl ?_
  refine r_iload_n (q := 20) dJ5_append_cf1ce_19 rfl rfl rfl ?_
  refine r_iadd (q := 21) dJ5_append_cf1ce_20 rfl ?_
  rw [nI_a2]
  refine r_callP (q := 24) (ci := 1) (As := [_]) dJ5_append_cf1ce_21 s_J5_append_cf1ce_100 H.1 rfl rfl (Nat.le_of_ble_eq_true rfl) rfl rfl rfl (Nat.le_of_ble_eq_true rfl) (Nat.le_of_ble_eq_true rfl) ⟨(Nat.le_of_ble_eq_true rfl), (Nat.le_of_ble_eq_true rfl)⟩ rfl ?_
  refine ct_J5_ensureCapacityInternal_d00df H hL (by omega) (fun u B2 H2 L2 F2 c2 => ?_)
  show WF _ E Po _ _ _ _ _ _ _
  obtain ⟨va2, cap2, ml2, ct2, f2⟩ := B2
  obtain rfl : ct2 = nI l.length := L2.1
  have hcap2 : cap2 ≤ 125 := L2.2.2.1.2
  have hbva : b < va2 := H2.2.2.1
  change _ ≤ cap2 at c2
  have T2 : TS E u s va9 f9 l9 := ⟨(F2.2.1 s hs.1 hs.2.1 hs.2.2).trans T.1, (F2.2.1 va9 hv.1 hv.2.1 hv.2.2).trans T.2⟩
  refine r_aload_n (q := 25) dJ5_append_cf1ce_24 rfl rfl rfl ?_
  refine r_aload_n (q := 26) dJ5_append_cf1ce_25 rfl rfl rfl ?_
  refine r_getfS (q := 29) dJ5_append_cf1ce_26 f_J5_append_cf1ce_79 H2.1 rfl rfl ?_
  refine r_aload_n (q := 30) dJ5_append_cf1ce_29 rfl rfl rfl ?_
  refine r_callP (q := 33) (ci := 1) (As := [_, _]) dJ5_append_cf1ce_30 s_J5_append_cf1ce_208 H2.1 rfl rfl (Nat.le_of_ble_eq_true rfl) rfl rfl rfl (Nat.le_of_ble_eq_true rfl) (Nat.le_of_ble_eq_true rfl) ⟨(Nat.le_of_ble_eq_true rfl), (Nat.le_of_ble_eq_true rfl)⟩ rfl ?_
  refine hs_putStringAt H2 T2 X c2 (by omega) ?_
  show WF _ E Po _ _ _ _ _ _ _
  refine r_aload_n (q := 34) dJ5_append_cf1ce_33 rfl rfl rfl ?_
  refine r_dup (q := 35) dJ5_append_cf1ce_34 rfl rfl ?_
  refine r_getfS (q := 38) dJ5_append_cf1ce_35 f_J5_append_cf1ce_79 ((xset_o (Nat.ne_of_lt hbva)).trans H2.1) rfl rfl ?_
  refine r_iload_n (q := 39) dJ5_append_cf1ce_38 rfl rfl rfl ?_
  refine r_iadd (q := 40) dJ5_append_cf1ce_39 rfl ?_
  rw [nI_a2]
  refine r_putfS (q := 43) dJ5_append_cf1ce_40 f_J5_append_cf1ce_79 ((xset_o (Nat.ne_of_lt hbva)).trans H2.1) rfl rfl (Nat.le_of_ble_eq_true rfl) rfl ?_
  refine r_aload_n (q := 44) dJ5_append_cf1ce_43 rfl rfl rfl ?_
  refine r_aret dJ5_append_cf1ce_44 rfl (Or.inr ⟨_, rfl⟩) (Nat.le_of_ble_eq_true rfl) (Nat.le_of_ble_eq_true rfl) ?_
  exact hp _ (va2, cap2, ml2, nI (l.length + l9.length), va_cpy f9 f2 0 l.length l9.length) (HB.put H2) (hasL.app L2 c2 (fun j hj => pk_cpy_out (Or.inl hj)) (fun j hj => by
    rw [pk_cpy_in (by omega) (by omega), show 0 + (l.length + j - l.length) = j by omega]
    exact X.2.1 j hj) X.2.2.1 (sb_fitC X.2.2.2 L2.2.2.2.2.2)) F2.put
set_option maxRecDepth 100000 in
set_option maxHeartbeats 4000000 in
theorem hs_append {E : xE} {Po : xPo} {w : xW} {b : Nat} {va cap : Nat} {ml ct : Int32} {f : Nat → Int32} (H : HB E w b (va, cap, ml, ct, f)) {l : List Int32} (hL : hasL (va, cap, ml, ct, f) l) {s va9 : Nat} {f9 : Nat → Int32} {l9 : List Int32} (T : TS E w s va9 f9 l9) (X : hasX f9 l9) (hs : s ≠ b ∧ s ≠ va ∧ s < w.2) (hv : va9 ≠ b ∧ va9 ≠ va ∧ va9 < w.2) (hl : l.length + l9.length ≤ 60) (hp : ∀ (u : xW) (B2 : xBd), HB E u b B2 → hasL B2 (l ++ l9) → FB w u b (va, cap, ml, ct, f) B2 → Po (.inl (some (.ref b))) u) : Ct M_J4_append_15ec4 E [.ref b, .ref s] w Po := by
  refine Ct.of (ws2 := xPv ++ xAll) (L := [some (.ref b), some (.ref s)]) (by decide +kernel) rfl rfl (List.forall_mem_cons.mpr ⟨rfl, List.forall_mem_cons.mpr ⟨rfl, fun _ h => absurd h List.not_mem_nil⟩⟩) (Nat.le_of_ble_eq_true rfl) rfl ?_
  refine r_aload_n (q := 1) dJ4_append_15ec4_0 rfl rfl rfl ?_
  refine r_aload_n (q := 2) dJ4_append_15ec4_1 rfl rfl rfl ?_
  refine r_callSp (q := 5) (ci := 1) (As := [_]) dJ4_append_15ec4_2 s_J4_append_15ec4_29 H.1 rfl (Nat.le_of_ble_eq_true rfl) rfl rfl rfl ⟨(Nat.le_of_ble_eq_true rfl), (Nat.le_of_ble_eq_true rfl)⟩ rfl ?_
  refine hs_append5 H hL T X hs hv hl (fun u B2 H2 L2 F2 => ?_)
  show WF _ E Po _ _ _ _ _ _ _
  refine r_pop (q := 6) dJ4_append_15ec4_5 rfl rfl ?_
  refine r_aload_n (q := 7) dJ4_append_15ec4_6 rfl rfl rfl ?_
  refine r_aret dJ4_append_15ec4_7 rfl (Or.inr ⟨_, rfl⟩) (Nat.le_of_ble_eq_true rfl) (Nat.le_of_ble_eq_true rfl) ?_
  exact hp u B2 H2 L2 F2
theorem dJ7_checkLength_df160_0 : decode cJ7_checkLength_df160 0 = .ok (.iload_n 1, 1) := by decide +kernel
theorem dJ7_checkLength_df160_1 : decode cJ7_checkLength_df160 1 = .ok (.iload_n 0, 1) := by decide +kernel
theorem dJ7_checkLength_df160_2 : decode cJ7_checkLength_df160 2 = .ok (.if_icmp .ge 35, 3) := by decide +kernel
theorem dJ7_checkLength_df160_5 : decode cJ7_checkLength_df160 5 = .ok (.new 43, 3) := by decide +kernel
theorem dJ7_checkLength_df160_8 : decode cJ7_checkLength_df160 8 = .ok (.dup, 1) := by decide +kernel
theorem dJ7_checkLength_df160_9 : decode cJ7_checkLength_df160 9 = .ok (.new 45, 3) := by decide +kernel
theorem dJ7_checkLength_df160_12 : decode cJ7_checkLength_df160 12 = .ok (.dup, 1) := by decide +kernel
theorem dJ7_checkLength_df160_13 : decode cJ7_checkLength_df160 13 = .ok (.invokespecial 47, 3) := by decide +kernel
theorem dJ7_checkLength_df160_16 : decode cJ7_checkLength_df160 16 = .ok (.iload_n 0, 1) := by decide +kernel
theorem dJ7_checkLength_df160_17 : decode cJ7_checkLength_df160 17 = .ok (.invokevirtual 54, 3) := by decide +kernel
theorem dJ7_checkLength_df160_20 : decode cJ7_checkLength_df160 20 = .ok (.ldc_w 337, 3) := by decide +kernel
theorem dJ7_checkLength_df160_23 : decode cJ7_checkLength_df160 23 = .ok (.invokevirtual 50, 3) := by decide +kernel
theorem dJ7_checkLength_df160_26 : decode cJ7_checkLength_df160 26 = .ok (.iload_n 1, 1) := by decide +kernel
theorem dJ7_checkLength_df160_27 : decode cJ7_checkLength_df160 27 = .ok (.invokevirtual 54, 3) := by decide +kernel
theorem dJ7_checkLength_df160_30 : decode cJ7_checkLength_df160 30 = .ok (.invokevirtual 61, 3) := by decide +kernel
theorem dJ7_checkLength_df160_33 : decode cJ7_checkLength_df160 33 = .ok (.invokespecial 65, 3) := by decide +kernel
theorem dJ7_checkLength_df160_36 : decode cJ7_checkLength_df160 36 = .ok (.athrow, 1) := by decide +kernel
theorem dJ7_checkLength_df160_37 : decode cJ7_checkLength_df160 37 = .ok (.return_, 1) := by decide +kernel
/-- java/util/Arrays.checkLength(II)V -/
def M_J7_checkLength_df160 : xM := (yJ7_checkLength_df160, cJ7_checkLength_df160, 2, none, Cond.code yJ7_checkLength_df160 cJ7_checkLength_df160 2 none :: xAll, { frames := 10, cells := 0, slots := 0, locals := 204 }, (0, 0), [])
set_option maxRecDepth 100000 in
set_option maxHeartbeats 4000000 in
theorem ct_J7_checkLength_df160 {E : xE} {Po : xPo} {w : xW} {x y : Int32} (h : x ≤ y) (hp : Po (.inl none) w) : Ct M_J7_checkLength_df160 E [.int x, .int y] w Po := by
  refine Ct.of (ws2 := xAll) (L := [some (.int x), some (.int y)]) (by decide +kernel) rfl rfl (List.forall_mem_cons.mpr ⟨rfl, List.forall_mem_cons.mpr ⟨rfl, fun _ h => absurd h List.not_mem_nil⟩⟩) (Nat.le_of_ble_eq_true rfl) rfl ?_
  refine r_iload_n (q := 1) dJ7_checkLength_df160_0 rfl rfl rfl ?_
  refine r_iload_n (q := 2) dJ7_checkLength_df160_1 rfl rfl rfl ?_
  refine r_icmp_ge (q := 37) (q2 := 5) dJ7_checkLength_df160_2 (by decide) rfl (fun _ => ?_) (fun h9 => absurd h h9)
  refine r_vret dJ7_checkLength_df160_37 rfl (Nat.le_of_ble_eq_true rfl) (Nat.le_of_ble_eq_true rfl) ?_
  exact hp
theorem dJ5_getValue_6d5f1_0 : decode cJ5_getValue_6d5f1 0 = .ok (.aload_n 0, 1) := by decide +kernel
theorem dJ5_getValue_6d5f1_1 : decode cJ5_getValue_6d5f1 1 = .ok (.getfield 15, 3) := by decide +kernel
theorem dJ5_getValue_6d5f1_4 : decode cJ5_getValue_6d5f1 4 = .ok (.areturn, 1) := by decide +kernel
/-- java/lang/AbstractStringBuilder.getValue()[B -/
def M_J5_getValue_6d5f1 : xM := (yJ5_getValue_6d5f1, cJ5_getValue_6d5f1, 1, (some (FieldType.array FieldType.byte)), Cond.code yJ5_getValue_6d5f1 cJ5_getValue_6d5f1 1 (some (FieldType.array FieldType.byte)) :: xAll, { frames := 5, cells := 0, slots := 0, locals := 90 }, (0, 0), [])
theorem yw1 : (Jvm.Cond.fieldLink "java/lang/AbstractStringBuilder" (15 : Nat) "java/lang/AbstractStringBuilder" "value" "[B") ∈ xAll := xin2 (List.mem_of_getElem? (i := 39) (by decide +kernel)) (by decide +kernel)
theorem f_J5_getValue_6d5f1_15 : xFl2 M_J5_getValue_6d5f1 15 1 0 (tyJ4 0) := ⟨RJ4, TJ4, 4, tyJ4, rfl, by decide, fun w h => List.mem_cons_of_mem _ (inJ4 w h), List.mem_cons_of_mem _ (yw1), tyJ4_ok, nmJ4, rfl, rfl⟩
set_option maxRecDepth 100000 in
set_option maxHeartbeats 4000000 in
theorem ct_J5_getValue_6d5f1 {E : xE} {Po : xPo} {w : xW} {b : Nat} {va cap : Nat} {ml ct : Int32} {f : Nat → Int32} (H : HB E w b (va, cap, ml, ct, f)) (hp : Po (.inl (some (.ref va))) w) : Ct M_J5_getValue_6d5f1 E [.ref b] w Po := by
  refine Ct.of (ws2 := xAll) (L := [some (.ref b)]) (by decide +kernel) rfl rfl (List.forall_mem_cons.mpr ⟨rfl, fun _ h => absurd h List.not_mem_nil⟩) (Nat.le_of_ble_eq_true rfl) rfl ?_
  refine r_aload_n (q := 1) dJ5_getValue_6d5f1_0 rfl rfl rfl ?_
  refine r_getfS (q := 4) dJ5_getValue_6d5f1_1 f_J5_getValue_6d5f1_15 H.1 rfl rfl ?_
  exact r_aretA dJ5_getValue_6d5f1_4 rfl (Or.inr ⟨_, rfl⟩) (Nat.le_of_ble_eq_true rfl) (Nat.le_of_ble_eq_true rfl) hp
theorem dJ7_copyOfRangeByte_39247_0 : decode cJ7_copyOfRangeByte_39247 0 = .ok (.iload_n 1, 1) := by decide +kernel
theorem dJ7_copyOfRangeByte_39247_1 : decode cJ7_copyOfRangeByte_39247 1 = .ok (.iload_n 2, 1) := by decide +kernel
theorem dJ7_copyOfRangeByte_39247_2 : decode cJ7_copyOfRangeByte_39247 2 = .ok (.invokestatic 343, 3) := by decide +kernel
theorem dJ7_copyOfRangeByte_39247_5 : decode cJ7_copyOfRangeByte_39247 5 = .ok (.iload_n 2, 1) := by decide +kernel
theorem dJ7_copyOfRangeByte_39247_6 : decode cJ7_copyOfRangeByte_39247 6 = .ok (.iload_n 1, 1) := by decide +kernel
theorem dJ7_copyOfRangeByte_39247_7 : decode cJ7_copyOfRangeByte_39247 7 = .ok (.isub, 1) := by decide +kernel
theorem dJ7_copyOfRangeByte_39247_8 : decode cJ7_copyOfRangeByte_39247 8 = .ok (.istore_n 3, 1) := by decide +kernel
theorem dJ7_copyOfRangeByte_39247_9 : decode cJ7_copyOfRangeByte_39247 9 = .ok (.iload_n 3, 1) := by decide +kernel
theorem dJ7_copyOfRangeByte_39247_10 : decode cJ7_copyOfRangeByte_39247 10 = .ok (.newarray .byte, 2) := by decide +kernel
theorem dJ7_copyOfRangeByte_39247_12 : decode cJ7_copyOfRangeByte_39247 12 = .ok (.astore 4, 2) := by decide +kernel
theorem dJ7_copyOfRangeByte_39247_14 : decode cJ7_copyOfRangeByte_39247 14 = .ok (.aload_n 0, 1) := by decide +kernel
theorem dJ7_copyOfRangeByte_39247_15 : decode cJ7_copyOfRangeByte_39247 15 = .ok (.iload_n 1, 1) := by decide +kernel
theorem dJ7_copyOfRangeByte_39247_16 : decode cJ7_copyOfRangeByte_39247 16 = .ok (.aload 4, 2) := by decide +kernel
theorem dJ7_copyOfRangeByte_39247_18 : decode cJ7_copyOfRangeByte_39247 18 = .ok (.iconst 0, 1) := by decide +kernel
theorem dJ7_copyOfRangeByte_39247_19 : decode cJ7_copyOfRangeByte_39247 19 = .ok (.aload_n 0, 1) := by decide +kernel
theorem dJ7_copyOfRangeByte_39247_20 : decode cJ7_copyOfRangeByte_39247 20 = .ok (.arraylength, 1) := by decide +kernel
theorem dJ7_copyOfRangeByte_39247_21 : decode cJ7_copyOfRangeByte_39247 21 = .ok (.iload_n 1, 1) := by decide +kernel
theorem dJ7_copyOfRangeByte_39247_22 : decode cJ7_copyOfRangeByte_39247 22 = .ok (.isub, 1) := by decide +kernel
theorem dJ7_copyOfRangeByte_39247_23 : decode cJ7_copyOfRangeByte_39247 23 = .ok (.iload_n 3, 1) := by decide +kernel
theorem dJ7_copyOfRangeByte_39247_24 : decode cJ7_copyOfRangeByte_39247 24 = .ok (.invokestatic 304, 3) := by decide +kernel
theorem dJ7_copyOfRangeByte_39247_27 : decode cJ7_copyOfRangeByte_39247 27 = .ok (.invokestatic 150, 3) := by decide +kernel
theorem dJ7_copyOfRangeByte_39247_30 : decode cJ7_copyOfRangeByte_39247 30 = .ok (.aload 4, 2) := by decide +kernel
theorem dJ7_copyOfRangeByte_39247_32 : decode cJ7_copyOfRangeByte_39247 32 = .ok (.areturn, 1) := by decide +kernel
/-- java/util/Arrays.copyOfRangeByte([BII)[B -/
def M_J7_copyOfRangeByte_39247 : xM := (yJ7_copyOfRangeByte_39247, cJ7_copyOfRangeByte_39247, 5, (some (FieldType.array FieldType.byte)), Cond.code yJ7_copyOfRangeByte_39247 cJ7_copyOfRangeByte_39247 5 (some (FieldType.array FieldType.byte)) :: xAll, { frames := 11, cells := 1, slots := 60, locals := 225 }, (1, 60), [])
theorem yw2 : (Jvm.Cond.code ({ cls := "java/util/Arrays", name := "checkLength", desc := "(II)V" } : Jvm.MethodName) prog_40_method_131_code (2 : Nat) (Option.none : Option Jvm.ClassFile.FieldType)) ∈ xAll := xin5 (List.mem_of_getElem? (i := 109) (by decide +kernel)) (by decide +kernel)
theorem yw3 : (Jvm.Cond.initialized "java/util/Arrays") ∈ xAll := xin1 (List.mem_of_getElem? (i := 28) (by decide +kernel)) (by decide +kernel)
theorem yw4 : (Jvm.Cond.methodLink "java/util/Arrays" (343 : Nat) ({ cls := "java/util/Arrays", name := "checkLength", desc := "(II)V" } : Jvm.MethodName)) ∈ xAll := xin5 (List.mem_of_getElem? (i := 107) (by decide +kernel)) (by decide +kernel)
theorem yw5 : (Jvm.Cond.static ({ cls := "java/util/Arrays", name := "checkLength", desc := "(II)V" } : Jvm.MethodName)) ∈ xAll := xin5 (List.mem_of_getElem? (i := 108) (by decide +kernel)) (by decide +kernel)
theorem s_J7_copyOfRangeByte_39247_343 : xSs M_J7_copyOfRangeByte_39247 M_J7_checkLength_df160 343 2 := fun s args hts => ⟨callB_of 2 hts (xGood yw2) rfl rfl rfl (hts _ (List.mem_cons_of_mem _ (yw3))) (hts _ (List.mem_cons_of_mem _ (yw4))) (by decide +kernel) ⟨Nat.le_of_ble_eq_true rfl, Nat.le_of_ble_eq_true rfl⟩, (hts _ (List.mem_cons_of_mem _ (yw5)))⟩
theorem yw6 : (Jvm.Cond.static ({ cls := "java/lang/Math", name := "min", desc := "(II)I" } : Jvm.MethodName)) ∈ xAll := xin2 (List.mem_of_getElem? (i := 239) (by decide +kernel)) (by decide +kernel)
theorem yw7 : (Jvm.Cond.initialized "java/lang/Math") ∈ xAll := xin1 (List.mem_of_getElem? (i := 15) (by decide +kernel)) (by decide +kernel)
theorem yw8 : (Jvm.Cond.code ({ cls := "java/lang/Math", name := "min", desc := "(II)I" } : Jvm.MethodName) prog_27_method_69_code (2 : Nat) (Option.some Jvm.ClassFile.FieldType.int)) ∈ xAll := xin3 (List.mem_of_getElem? (i := 0) (by decide +kernel)) (by decide +kernel)
theorem yw9 : (Jvm.Cond.methodLink "java/util/Arrays" (304 : Nat) ({ cls := "java/lang/Math", name := "min", desc := "(II)I" } : Jvm.MethodName)) ∈ xAll := xin4 (List.mem_of_getElem? (i := 184) (by decide +kernel)) (by decide +kernel)
theorem p_J7_copyOfRangeByte_39247_304 : xMm M_J7_copyOfRangeByte_39247 304 := ⟨List.mem_cons_of_mem _ (yw9), List.mem_cons_of_mem _ (yw6), List.mem_cons_of_mem _ (yw7), List.mem_cons_of_mem _ (yw8), Nat.le_of_ble_eq_true rfl, Nat.le_of_ble_eq_true rfl, rfl, rfl⟩
theorem yw10 : (Jvm.Cond.methodLink "java/util/Arrays" (150 : Nat) ({ cls := "java/lang/System", name := "arraycopy", desc := "(Ljava/lang/Object;ILjava/lang/Object;II)V" } : Jvm.MethodName)) ∈ xAll := xin4 (List.mem_of_getElem? (i := 185) (by decide +kernel)) (by decide +kernel)
theorem a_J7_copyOfRangeByte_39247_150 : xAc M_J7_copyOfRangeByte_39247 150 := ⟨List.mem_cons_of_mem _ (yw10), List.mem_cons_of_mem _ (v171), List.mem_cons_of_mem _ (v172), List.mem_cons_of_mem _ (v173), Nat.le_of_ble_eq_true rfl, Nat.le_of_ble_eq_true rfl⟩
set_option maxRecDepth 100000 in
set_option maxHeartbeats 4000000 in
theorem ct_J7_copyOfRangeByte_39247 {E : xE} {Po : xPo} {w : xW} {va cap n : Nat} {f : Nat → Int32} (hw : w.1 va = some (.inl (E.1.2 7, cap, .inl f))) (hva : va < w.2) (hn : n ≤ cap) (hn60 : n ≤ 60) (hb : cap < 1000) (hfit : sb_Fit f) (hp : Po (.inl (some (.ref w.2))) (xadd w (.inl (E.1.2 7, n, .inl (va_cpy f (fun _ => 0) 0 0 n))))) : Ct M_J7_copyOfRangeByte_39247 E [.ref va, .int 0, .int (nI n)] w Po := by
  refine Ct.of (ws2 := xAll) (L := [some (.ref va), some (.int 0), some (.int (nI n)), none, none]) (by decide +kernel) rfl rfl (List.forall_mem_cons.mpr ⟨rfl, List.forall_mem_cons.mpr ⟨rfl, List.forall_mem_cons.mpr ⟨rfl, fun _ h => absurd h List.not_mem_nil⟩⟩⟩) (Nat.le_of_ble_eq_true rfl) rfl ?_
  refine r_iload_n (q := 1) dJ7_copyOfRangeByte_39247_0 rfl rfl rfl ?_
  refine r_iload_n (q := 2) dJ7_copyOfRangeByte_39247_1 rfl rfl rfl ?_
  refine r_callS (q := 5) (As := [_, _]) dJ7_copyOfRangeByte_39247_2 s_J7_copyOfRangeByte_39247_343 rfl rfl (Nat.le_of_ble_eq_true rfl) rfl rfl rfl (Nat.le_of_ble_eq_true rfl) (Nat.le_of_ble_eq_true rfl) ⟨(Nat.le_of_ble_eq_true rfl), (Nat.le_of_ble_eq_true rfl)⟩ rfl ?_
  refine ct_J7_checkLength_df160 (nI_pos' (by omega)) ?_
  show WF _ E Po _ _ _ _ _ _ _
  refine r_iload_n (q := 6) dJ7_copyOfRangeByte_39247_5 rfl rfl rfl ?_
  refine r_iload_n (q := 7) dJ7_copyOfRangeByte_39247_6 rfl rfl rfl ?_
  refine r_isub (q := 8) dJ7_copyOfRangeByte_39247_7 rfl ?_
  rw [show nI n - (0 : Int32) = nI n from pk_sub (b := 0) (Nat.zero_le _)]
  refine r_istore_n (q := 9) dJ7_copyOfRangeByte_39247_8 rfl (Nat.le_of_ble_eq_true rfl) (xone_of rfl) rfl ?_
  refine r_iload_n (q := 10) dJ7_copyOfRangeByte_39247_9 rfl rfl rfl ?_
  refine r_newarray (q := 12) (ty := .byte) (t0 := 7) (N := n) (a0 := (n, .inl (fun _ => 0))) dJ7_copyOfRangeByte_39247_10 rfl (List.mem_cons_of_mem _ aw_byte) rfl (fun _ h => h) rfl (nI_pos (by omega)) (nI_cl (by omega)) (by show n * 1 ≤ 536870912; omega) (Nat.le_of_ble_eq_true rfl) (by show 0 + n ≤ 60; omega) rfl ?_
  refine r_astore (q := 14) dJ7_copyOfRangeByte_39247_12 (Nat.le_of_ble_eq_true rfl) (xone_of rfl) rfl ?_
  refine r_aload_n (q := 15) dJ7_copyOfRangeByte_39247_14 rfl rfl rfl ?_
  refine r_iload_n (q := 16) dJ7_copyOfRangeByte_39247_15 rfl rfl rfl ?_
  refine r_aload (q := 18) dJ7_copyOfRangeByte_39247_16 rfl rfl ?_
  refine r_iconst (q := 19) (v := 0) dJ7_copyOfRangeByte_39247_18 rfl rfl ?_
  refine r_aload_n (q := 20) dJ7_copyOfRangeByte_39247_19 rfl rfl rfl ?_
  refine r_alen (q := 21) (t0 := 7) dJ7_copyOfRangeByte_39247_20 rfl ((xadd_o (Nat.ne_of_lt hva)).trans hw) rfl ?_
  show WF _ E Po _ _ _ (.int (nI cap) :: _) _ _ _
  refine r_iload_n (q := 22) dJ7_copyOfRangeByte_39247_21 rfl rfl rfl ?_
  refine r_isub (q := 23) dJ7_copyOfRangeByte_39247_22 rfl ?_
  rw [show nI cap - (0 : Int32) = nI cap from pk_sub (b := 0) (Nat.zero_le _)]
  refine r_iload_n (q := 24) dJ7_copyOfRangeByte_39247_23 rfl rfl rfl ?_
  refine r_mmin (q := 27) dJ7_copyOfRangeByte_39247_24 p_J7_copyOfRangeByte_39247_304 (Nat.le_of_ble_eq_true rfl) rfl (Nat.le_of_ble_eq_true rfl) (by show 0 + n ≤ 60; omega) ?_
  rw [mn_nI2 hn (by omega)]
  refine r_copyb (q := 30) dJ7_copyOfRangeByte_39247_27 a_J7_copyOfRangeByte_39247_150 ((xadd_o (Nat.ne_of_lt hva)).trans hw) xadd_s hfit (sa := 0) (da := 0) (na := n) rfl rfl rfl (by omega) (by omega) ⟨by omega, by omega⟩ (Nat.le_of_ble_eq_true rfl) rfl ?_
  rw [xset_xadd]
  refine r_aload (q := 32) dJ7_copyOfRangeByte_39247_30 rfl rfl ?_
  exact r_aretA dJ7_copyOfRangeByte_39247_32 rfl (Or.inr ⟨_, rfl⟩) (Nat.le_of_ble_eq_true rfl) (by show 0 + n ≤ 60; omega) hp
theorem dJ7_copyOfRange_39247_0 : decode cJ7_copyOfRange_39247 0 = .ok (.iload_n 1, 1) := by decide +kernel
theorem dJ7_copyOfRange_39247_1 : decode cJ7_copyOfRange_39247 1 = .ok (.ifCond .ne 9, 3) := by decide +kernel
theorem dJ7_copyOfRange_39247_4 : decode cJ7_copyOfRange_39247 4 = .ok (.iload_n 2, 1) := by decide +kernel
theorem dJ7_copyOfRange_39247_5 : decode cJ7_copyOfRange_39247 5 = .ok (.aload_n 0, 1) := by decide +kernel
theorem dJ7_copyOfRange_39247_6 : decode cJ7_copyOfRange_39247 6 = .ok (.arraylength, 1) := by decide +kernel
theorem dJ7_copyOfRange_39247_7 : decode cJ7_copyOfRange_39247 7 = .ok (.if_icmp .eq 10, 3) := by decide +kernel
theorem dJ7_copyOfRange_39247_10 : decode cJ7_copyOfRange_39247 10 = .ok (.aload_n 0, 1) := by decide +kernel
theorem dJ7_copyOfRange_39247_11 : decode cJ7_copyOfRange_39247 11 = .ok (.iload_n 1, 1) := by decide +kernel
theorem dJ7_copyOfRange_39247_12 : decode cJ7_copyOfRange_39247 12 = .ok (.iload_n 2, 1) := by decide +kernel
theorem dJ7_copyOfRange_39247_13 : decode cJ7_copyOfRange_39247 13 = .ok (.invokestatic 339, 3) := by decide +kernel
theorem dJ7_copyOfRange_39247_16 : decode cJ7_copyOfRange_39247 16 = .ok (.areturn, 1) := by decide +kernel
theorem dJ7_copyOfRange_39247_17 : decode cJ7_copyOfRange_39247 17 = .ok (.aload_n 0, 1) := by decide +kernel
theorem dJ7_copyOfRange_39247_18 : decode cJ7_copyOfRange_39247 18 = .ok (.invokevirtual 310, 3) := by decide +kernel
theorem dJ7_copyOfRange_39247_21 : decode cJ7_copyOfRange_39247 21 = .ok (.checkcast 311, 3) := by decide +kernel
theorem dJ7_copyOfRange_39247_24 : decode cJ7_copyOfRange_39247 24 = .ok (.areturn, 1) := by decide +kernel
/-- java/util/Arrays.copyOfRange([BII)[B -/
def M_J7_copyOfRange_39247 : xM := (yJ7_copyOfRange_39247, cJ7_copyOfRange_39247, 3, (some (FieldType.array FieldType.byte)), Cond.code yJ7_copyOfRange_39247 cJ7_copyOfRange_39247 3 (some (FieldType.array FieldType.byte)) :: xAll, { frames := 12, cells := 1, slots := 60, locals := 249 }, (1, 60), [])
theorem yw11 : (Jvm.Cond.code ({ cls := "java/util/Arrays", name := "copyOfRangeByte", desc := "([BII)[B" } : Jvm.MethodName) prog_40_method_133_code (5 : Nat) (Option.some (Jvm.ClassFile.FieldType.array Jvm.ClassFile.FieldType.byte))) ∈ xAll := xin5 (List.mem_of_getElem? (i := 106) (by decide +kernel)) (by decide +kernel)
theorem yw12 : (Jvm.Cond.methodLink "java/util/Arrays" (339 : Nat) ({ cls := "java/util/Arrays", name := "copyOfRangeByte", desc := "([BII)[B" } : Jvm.MethodName)) ∈ xAll := xin5 (List.mem_of_getElem? (i := 104) (by decide +kernel)) (by decide +kernel)
theorem yw13 : (Jvm.Cond.static ({ cls := "java/util/Arrays", name := "copyOfRangeByte", desc := "([BII)[B" } : Jvm.MethodName)) ∈ xAll := xin5 (List.mem_of_getElem? (i := 105) (by decide +kernel)) (by decide +kernel)
theorem s_J7_copyOfRange_39247_339 : xSs M_J7_copyOfRange_39247 M_J7_copyOfRangeByte_39247 339 3 := fun s args hts => ⟨callB_of 3 hts (xGood yw11) rfl rfl rfl (hts _ (List.mem_cons_of_mem _ (yw3))) (hts _ (List.mem_cons_of_mem _ (yw12))) (by decide +kernel) ⟨Nat.le_of_ble_eq_true rfl, Nat.le_of_ble_eq_true rfl⟩, (hts _ (List.mem_cons_of_mem _ (yw13)))⟩
set_option maxRecDepth 100000 in
set_option maxHeartbeats 4000000 in
theorem ct_J7_copyOfRange_39247 {E : xE} {Po : xPo} {w : xW} {va cap n : Nat} {f : Nat → Int32} (hw : w.1 va = some (.inl (E.1.2 7, cap, .inl f))) (hva : va < w.2) (hn : n < cap) (hn60 : n ≤ 60) (hb : cap < 1000) (hfit : sb_Fit f) (hp : Po (.inl (some (.ref w.2))) (xadd w (.inl (E.1.2 7, n, .inl (va_cpy f (fun _ => 0) 0 0 n))))) : Ct M_J7_copyOfRange_39247 E [.ref va, .int 0, .int (nI n)] w Po := by
  refine Ct.of (ws2 := xAll) (L := [some (.ref va), some (.int 0), some (.int (nI n))]) (by decide +kernel) rfl rfl (List.forall_mem_cons.mpr ⟨rfl, List.forall_mem_cons.mpr ⟨rfl, List.forall_mem_cons.mpr ⟨rfl, fun _ h => absurd h List.not_mem_nil⟩⟩⟩) (Nat.le_of_ble_eq_true rfl) rfl ?_
  refine r_iload_n (q := 1) dJ7_copyOfRange_39247_0 rfl rfl rfl ?_
  refine r_if_ne (q := 10) (q2 := 4) dJ7_copyOfRange_39247_1 (by decide) rfl (fun h9 => absurd rfl h9) (fun _ => ?_)
  refine r_iload_n (q := 5) dJ7_copyOfRange_39247_4 rfl rfl rfl ?_
  refine r_aload_n (q := 6) dJ7_copyOfRange_39247_5 rfl rfl rfl ?_
  refine r_alen (q := 7) (t0 := 7) dJ7_copyOfRange_39247_6 rfl hw rfl ?_
  show WF _ E Po _ _ _ (.int (nI cap) :: _) _ _ _
  refine r_icmp_eq (q := 17) (q2 := 10) dJ7_copyOfRange_39247_7 (by decide) rfl (fun h9 => absurd h9 (nI_ne (by omega) (by omega) (by omega))) (fun _ => ?_)
  refine r_aload_n (q := 11) dJ7_copyOfRange_39247_10 rfl rfl rfl ?_
  refine r_iload_n (q := 12) dJ7_copyOfRange_39247_11 rfl rfl rfl ?_
  refine r_iload_n (q := 13) dJ7_copyOfRange_39247_12 rfl rfl rfl ?_
  refine r_callS (q := 16) (As := [_, _, _]) dJ7_copyOfRange_39247_13 s_J7_copyOfRange_39247_339 rfl rfl (Nat.le_of_ble_eq_true rfl) rfl rfl rfl (Nat.le_of_ble_eq_true rfl) (Nat.le_of_ble_eq_true rfl) ⟨(Nat.le_of_ble_eq_true rfl), (Nat.le_of_ble_eq_true rfl)⟩ rfl ?_
  refine ct_J7_copyOfRangeByte_39247 hw hva (Nat.le_of_lt hn) hn60 hb hfit ?_
  show WF _ E Po _ _ _ _ _ _ _
  exact r_aretA dJ7_copyOfRange_39247_16 rfl (Or.inr ⟨_, rfl⟩) (Nat.le_of_ble_eq_true rfl) (Nat.le_of_ble_eq_true rfl) hp
section XINHV
variable {M M2 : xM} {E : xE} {Po : xPo} {w0 w : xW} {pc q : Nat} {L : List (Option Value)} {k n k2 n2 : Nat} {idx nn b ci : Nat} {As rest st fs : List Value}
theorem r_callUV {C9 owner : String} {z : MethodName} (hd : decode (mC M) pc = .ok (.invokevirtual idx, 3)) (sv : xSvU M M2 C9 owner z idx nn) (hw : w.1 b = some (.inr (ci, fs))) (hc : (vwCl[ci]?).map (fun r => r.1) = some C9) (hn : As.length = nn) (hrm : (rest.map fun v => v.category).sum ≤ 8) (hq : pc + 3 = q)
    (hk : k + mK M2 = k2) (hn2 : n + mN M2 = n2) (hR : k2 ≤ (mR M).cells ∧ n2 ≤ (mR M).slots) (hst : As.reverse ++ .ref b :: rest = st)
    (hct : Ct M2 E (.ref b :: As) w (xNextI M E Po w0 q L rest k2 n2)) : WF M E Po w0 pc L st w k n := by
  subst hst
  refine x_callI (fun p l e s m args below meth c H locs ls C hl hM hp => ?_) hq hk hn2 hct
  obtain ⟨c1, c2, c3, c4, c5, c6, c7, c8, c9, c10, c11, c12⟩ := C
  have hrecv : ∃ cellB : Cell, H[b]? = some cellB ∧ cellB.vm.isStatics = false ∧ s.vm.findClass C9 = some cellB.cls := by
    obtain ⟨r, h1, cell, q1, q2, q3, q4⟩ := (hp.2 { s with heap := H } rfl (State.WarmedH.refl s)).2.1.1 b _ hw
    rw [h1] at hc
    exact ⟨cell, q1, by rw [q3]; rfl, by rw [q2, ← Option.some.inj hc]; exact (c11.1.1 ci r h1).2.1⟩
  exact va_runU (n := nn) (As := As) (rest := rest) ⟨c1, c2, c4, c6, c5⟩ hM (sv s args c5) ⟨hp.1, hrecv, hp.2⟩ rfl hn hl.1 rfl (lv_room hrm) hd (by rw [hk, hn2]; exact hR)
end XINHV
theorem dJ0_init_db425_0 : decode cJ0_init_db425 0 = .ok (.aload_n 0, 1) := by decide +kernel
theorem dJ0_init_db425_1 : decode cJ0_init_db425 1 = .ok (.invokespecial 1, 3) := by decide +kernel
theorem dJ0_init_db425_4 : decode cJ0_init_db425 4 = .ok (.aload_n 1, 1) := by decide +kernel
theorem dJ0_init_db425_5 : decode cJ0_init_db425 5 = .ok (.invokevirtual 552, 3) := by decide +kernel
theorem dJ0_init_db425_8 : decode cJ0_init_db425 8 = .ok (.astore_n 3, 1) := by decide +kernel
theorem dJ0_init_db425_9 : decode cJ0_init_db425 9 = .ok (.aload_n 1, 1) := by decide +kernel
theorem dJ0_init_db425_10 : decode cJ0_init_db425 10 = .ok (.invokevirtual 549, 3) := by decide +kernel
theorem dJ0_init_db425_13 : decode cJ0_init_db425 13 = .ok (.istore 4, 2) := by decide +kernel
theorem dJ0_init_db425_15 : decode cJ0_init_db425 15 = .ok (.aload_n 1, 1) := by decide +kernel
theorem dJ0_init_db425_16 : decode cJ0_init_db425 16 = .ok (.invokevirtual 1047, 3) := by decide +kernel
theorem dJ0_init_db425_19 : decode cJ0_init_db425 19 = .ok (.ifCond .eq 22, 3) := by decide +kernel
theorem dJ0_init_db425_22 : decode cJ0_init_db425 22 = .ok (.aload_n 0, 1) := by decide +kernel
theorem dJ0_init_db425_23 : decode cJ0_init_db425 23 = .ok (.iconst 0, 1) := by decide +kernel
theorem dJ0_init_db425_24 : decode cJ0_init_db425 24 = .ok (.putfield 15, 3) := by decide +kernel
theorem dJ0_init_db425_27 : decode cJ0_init_db425 27 = .ok (.aload_n 0, 1) := by decide +kernel
theorem dJ0_init_db425_28 : decode cJ0_init_db425 28 = .ok (.aload_n 3, 1) := by decide +kernel
theorem dJ0_init_db425_29 : decode cJ0_init_db425 29 = .ok (.iconst 0, 1) := by decide +kernel
theorem dJ0_init_db425_30 : decode cJ0_init_db425 30 = .ok (.iload 4, 2) := by decide +kernel
theorem dJ0_init_db425_32 : decode cJ0_init_db425 32 = .ok (.invokestatic 54, 3) := by decide +kernel
theorem dJ0_init_db425_35 : decode cJ0_init_db425 35 = .ok (.putfield 9, 3) := by decide +kernel
theorem dJ0_init_db425_38 : decode cJ0_init_db425 38 = .ok (.goto 59, 3) := by decide +kernel
theorem dJ0_init_db425_41 : decode cJ0_init_db425 41 = .ok (.getstatic 38, 3) := by decide +kernel
theorem dJ0_init_db425_44 : decode cJ0_init_db425 44 = .ok (.ifCond .eq 35, 3) := by decide +kernel
theorem dJ0_init_db425_47 : decode cJ0_init_db425 47 = .ok (.aload_n 1, 1) := by decide +kernel
theorem dJ0_init_db425_48 : decode cJ0_init_db425 48 = .ok (.getfield 1048, 3) := by decide +kernel
theorem dJ0_init_db425_51 : decode cJ0_init_db425 51 = .ok (.ifCond .eq 28, 3) := by decide +kernel
theorem dJ0_init_db425_54 : decode cJ0_init_db425 54 = .ok (.aload_n 0, 1) := by decide +kernel
theorem dJ0_init_db425_55 : decode cJ0_init_db425 55 = .ok (.aload_n 3, 1) := by decide +kernel
theorem dJ0_init_db425_56 : decode cJ0_init_db425 56 = .ok (.iconst 0, 1) := by decide +kernel
theorem dJ0_init_db425_57 : decode cJ0_init_db425 57 = .ok (.iload 4, 2) := by decide +kernel
theorem dJ0_init_db425_59 : decode cJ0_init_db425 59 = .ok (.invokestatic 1051, 3) := by decide +kernel
theorem dJ0_init_db425_62 : decode cJ0_init_db425 62 = .ok (.putfield 9, 3) := by decide +kernel
theorem dJ0_init_db425_65 : decode cJ0_init_db425 65 = .ok (.aload_n 0, 1) := by decide +kernel
theorem dJ0_init_db425_66 : decode cJ0_init_db425 66 = .ok (.aload_n 0, 1) := by decide +kernel
theorem dJ0_init_db425_67 : decode cJ0_init_db425 67 = .ok (.getfield 9, 3) := by decide +kernel
theorem dJ0_init_db425_70 : decode cJ0_init_db425 70 = .ok (.iload 4, 2) := by decide +kernel
theorem dJ0_init_db425_72 : decode cJ0_init_db425 72 = .ok (.invokestatic 47, 3) := by decide +kernel
theorem dJ0_init_db425_75 : decode cJ0_init_db425 75 = .ok (.putfield 15, 3) := by decide +kernel
theorem dJ0_init_db425_78 : decode cJ0_init_db425 78 = .ok (.return_, 1) := by decide +kernel
theorem dJ0_init_db425_79 : decode cJ0_init_db425 79 = .ok (.aload_n 0, 1) := by decide +kernel
theorem dJ0_init_db425_80 : decode cJ0_init_db425 80 = .ok (.iconst 1, 1) := by decide +kernel
theorem dJ0_init_db425_81 : decode cJ0_init_db425 81 = .ok (.putfield 15, 3) := by decide +kernel
theorem dJ0_init_db425_84 : decode cJ0_init_db425 84 = .ok (.aload_n 0, 1) := by decide +kernel
theorem dJ0_init_db425_85 : decode cJ0_init_db425 85 = .ok (.aload_n 3, 1) := by decide +kernel
theorem dJ0_init_db425_86 : decode cJ0_init_db425 86 = .ok (.iconst 0, 1) := by decide +kernel
theorem dJ0_init_db425_87 : decode cJ0_init_db425 87 = .ok (.iload 4, 2) := by decide +kernel
theorem dJ0_init_db425_89 : decode cJ0_init_db425 89 = .ok (.iconst 1, 1) := by decide +kernel
theorem dJ0_init_db425_90 : decode cJ0_init_db425 90 = .ok (.ishl, 1) := by decide +kernel
theorem dJ0_init_db425_91 : decode cJ0_init_db425 91 = .ok (.invokestatic 54, 3) := by decide +kernel
theorem dJ0_init_db425_94 : decode cJ0_init_db425 94 = .ok (.putfield 9, 3) := by decide +kernel
theorem dJ0_init_db425_97 : decode cJ0_init_db425 97 = .ok (.return_, 1) := by decide +kernel
/-- java/lang/String.<init>(Ljava/lang/AbstractStringBuilder;Ljava/lang/Void;)V -/
def M_J0_init_db425 : xM := (yJ0_init_db425, cJ0_init_db425, 5, none, Cond.code yJ0_init_db425 cJ0_init_db425 5 none :: xAll, { frames := 13, cells := 1, slots := 60, locals := 271 }, (1, 60), [])
theorem yw14 : (Jvm.Cond.methodLink "java/lang/String" (1 : Nat) ({ cls := "java/lang/Object", name := "<init>", desc := "()V" } : Jvm.MethodName)) ∈ xAll := xin5 (List.mem_of_getElem? (i := 86) (by decide +kernel)) (by decide +kernel)
theorem o_J0_init_db425 : Cond.methodLink (mY M_J0_init_db425).cls 1 Lib.objectInit ∈ mW M_J0_init_db425 := List.mem_cons_of_mem _ (yw14)
theorem yw15 : (Jvm.Cond.code ({ cls := "java/lang/AbstractStringBuilder", name := "getValue", desc := "()[B" } : Jvm.MethodName) prog_14_method_64_code (1 : Nat) (Option.some (Jvm.ClassFile.FieldType.array Jvm.ClassFile.FieldType.byte))) ∈ xAll := xin5 (List.mem_of_getElem? (i := 91) (by decide +kernel)) (by decide +kernel)
theorem yw16 : (Jvm.Cond.initialized "java/lang/AbstractStringBuilder") ∈ xAll := xin1 (List.mem_of_getElem? (i := 11) (by decide +kernel)) (by decide +kernel)
theorem yw17 : (Jvm.Cond.methodLink "java/lang/String" (552 : Nat) ({ cls := "java/lang/AbstractStringBuilder", name := "getValue", desc := "()[B" } : Jvm.MethodName)) ∈ xAll := xin5 (List.mem_of_getElem? (i := 87) (by decide +kernel)) (by decide +kernel)
theorem yw18 : (Jvm.Cond.instanceMethod ({ cls := "java/lang/AbstractStringBuilder", name := "getValue", desc := "()[B" } : Jvm.MethodName)) ∈ xAll := xin5 (List.mem_of_getElem? (i := 88) (by decide +kernel)) (by decide +kernel)
theorem yw19 : (Jvm.Cond.selects "java/lang/StringBuilder" ({ cls := "java/lang/AbstractStringBuilder", name := "getValue", desc := "()[B" } : Jvm.MethodName) ({ cls := "java/lang/AbstractStringBuilder", name := "getValue", desc := "()[B" } : Jvm.MethodName)) ∈ xAll := xin5 (List.mem_of_getElem? (i := 90) (by decide +kernel)) (by decide +kernel)
theorem s_J0_init_db425_552 : xSvC M_J0_init_db425 M_J5_getValue_6d5f1 "java/lang/StringBuilder" 552 0 := fun s args hts => ⟨callB_of 0 hts (xGood yw15) rfl rfl rfl (hts _ (List.mem_cons_of_mem _ (yw16))) (hts _ (List.mem_cons_of_mem _ (yw17))) (by decide +kernel) ⟨Nat.le_of_ble_eq_true rfl, Nat.le_of_ble_eq_true rfl⟩, (hts _ (List.mem_cons_of_mem _ (yw18))), (hts _ (List.mem_cons_of_mem _ (yw19)))⟩
theorem yw20 : (Jvm.Cond.code ({ cls := "java/lang/AbstractStringBuilder", name := "isLatin1", desc := "()Z" } : Jvm.MethodName) prog_14_method_68_code (1 : Nat) (Option.some Jvm.ClassFile.FieldType.boolean)) ∈ xAll := xin4 (List.mem_of_getElem? (i := 192) (by decide +kernel)) (by decide +kernel)
theorem yw21 : (Jvm.Cond.methodLink "java/lang/String" (1047 : Nat) ({ cls := "java/lang/AbstractStringBuilder", name := "isLatin1", desc := "()Z" } : Jvm.MethodName)) ∈ xAll := xin5 (List.mem_of_getElem? (i := 100) (by decide +kernel)) (by decide +kernel)
theorem yw22 : (Jvm.Cond.instanceMethod ({ cls := "java/lang/AbstractStringBuilder", name := "isLatin1", desc := "()Z" } : Jvm.MethodName)) ∈ xAll := xin4 (List.mem_of_getElem? (i := 189) (by decide +kernel)) (by decide +kernel)
theorem yw23 : (Jvm.Cond.selects "java/lang/StringBuilder" ({ cls := "java/lang/AbstractStringBuilder", name := "isLatin1", desc := "()Z" } : Jvm.MethodName) ({ cls := "java/lang/AbstractStringBuilder", name := "isLatin1", desc := "()Z" } : Jvm.MethodName)) ∈ xAll := xin4 (List.mem_of_getElem? (i := 191) (by decide +kernel)) (by decide +kernel)
theorem s_J0_init_db425_1047 : xSvC M_J0_init_db425 M_J5_isLatin1_aae02 "java/lang/StringBuilder" 1047 0 := fun s args hts => ⟨callB_of 0 hts (xGood yw20) rfl rfl rfl (hts _ (List.mem_cons_of_mem _ (yw16))) (hts _ (List.mem_cons_of_mem _ (yw21))) (by decide +kernel) ⟨Nat.le_of_ble_eq_true rfl, Nat.le_of_ble_eq_true rfl⟩, (hts _ (List.mem_cons_of_mem _ (yw22))), (hts _ (List.mem_cons_of_mem _ (yw23)))⟩
theorem yw24 : (Jvm.Cond.code ({ cls := "java/util/Arrays", name := "copyOfRange", desc := "([BII)[B" } : Jvm.MethodName) prog_40_method_132_code (3 : Nat) (Option.some (Jvm.ClassFile.FieldType.array Jvm.ClassFile.FieldType.byte))) ∈ xAll := xin5 (List.mem_of_getElem? (i := 103) (by decide +kernel)) (by decide +kernel)
theorem yw25 : (Jvm.Cond.methodLink "java/lang/String" (54 : Nat) ({ cls := "java/util/Arrays", name := "copyOfRange", desc := "([BII)[B" } : Jvm.MethodName)) ∈ xAll := xin5 (List.mem_of_getElem? (i := 101) (by decide +kernel)) (by decide +kernel)
theorem yw26 : (Jvm.Cond.static ({ cls := "java/util/Arrays", name := "copyOfRange", desc := "([BII)[B" } : Jvm.MethodName)) ∈ xAll := xin5 (List.mem_of_getElem? (i := 102) (by decide +kernel)) (by decide +kernel)
theorem s_J0_init_db425_54 : xSs M_J0_init_db425 M_J7_copyOfRange_39247 54 3 := fun s args hts => ⟨callB_of 3 hts (xGood yw24) rfl rfl rfl (hts _ (List.mem_cons_of_mem _ (yw3))) (hts _ (List.mem_cons_of_mem _ (yw25))) (by decide +kernel) ⟨Nat.le_of_ble_eq_true rfl, Nat.le_of_ble_eq_true rfl⟩, (hts _ (List.mem_cons_of_mem _ (yw26)))⟩
theorem yw27 : (Jvm.Cond.fieldLink "java/lang/String" (38 : Nat) "java/lang/String" "COMPACT_STRINGS" "Z") ∈ xAll := xin5 (List.mem_of_getElem? (i := 55) (by decide +kernel)) (by decide +kernel)
theorem g_J0_init_db425_38 : Cond.fieldLink (mY M_J0_init_db425).cls 38 "java/lang/String" "COMPACT_STRINGS" "Z" ∈ mW M_J0_init_db425 := List.mem_cons_of_mem _ (yw27)
theorem yw28 : (Jvm.Cond.fieldLink "java/lang/String" (15 : Nat) "java/lang/String" "coder" "B") ∈ xAll := xin5 (List.mem_of_getElem? (i := 132) (by decide +kernel)) (by decide +kernel)
theorem f_J0_init_db425_15 : xFld M_J0_init_db425 15 0 1 true (tyJ0 1) := ⟨RJ0, TJ0, 4, tyJ0, rfl, by decide, fun w h => List.mem_cons_of_mem _ (inJ0 w h), List.mem_cons_of_mem _ (yw28), tyJ0_ok, nmJ0, rfl, rfl, rfl⟩
theorem f_J0_init_db425_9 : xFld M_J0_init_db425 9 0 0 true (tyJ0 0) := ⟨RJ0, TJ0, 4, tyJ0, rfl, by decide, fun w h => List.mem_cons_of_mem _ (inJ0 w h), List.mem_cons_of_mem _ (yw0), tyJ0_ok, nmJ0, rfl, rfl, rfl⟩
theorem yw29 : (Jvm.Cond.methodLink "java/lang/String" (549 : Nat) ({ cls := "java/lang/AbstractStringBuilder", name := "length", desc := "()I" } : Jvm.MethodName)) ∈ xAll := xin5 (List.mem_of_getElem? (i := 92) (by decide +kernel)) (by decide +kernel)
theorem yw30 : (Jvm.Cond.sameMethod "java/lang/AbstractStringBuilder" "java/lang/AbstractStringBuilder" "length" "()I") ∈ xAll := xin5 (List.mem_of_getElem? (i := 94) (by decide +kernel)) (by decide +kernel)
theorem yw31 : (Jvm.Cond.instanceMethod ({ cls := "java/lang/AbstractStringBuilder", name := "length", desc := "()I" } : Jvm.MethodName)) ∈ xAll := xin5 (List.mem_of_getElem? (i := 93) (by decide +kernel)) (by decide +kernel)
theorem yw32 : (Jvm.Cond.selects "java/lang/StringBuilder" ({ cls := "java/lang/AbstractStringBuilder", name := "length", desc := "()I" } : Jvm.MethodName) ({ cls := "java/lang/StringBuilder", name := "length", desc := "()I" } : Jvm.MethodName)) ∈ xAll := xin5 (List.mem_of_getElem? (i := 95) (by decide +kernel)) (by decide +kernel)
theorem yw33 : (Jvm.Cond.instanceMethod ({ cls := "java/lang/StringBuilder", name := "length", desc := "()I" } : Jvm.MethodName)) ∈ xAll := xin5 (List.mem_of_getElem? (i := 96) (by decide +kernel)) (by decide +kernel)
theorem yw34 : (Jvm.Cond.initialized "java/lang/StringBuilder") ∈ xAll := xin1 (List.mem_of_getElem? (i := 12) (by decide +kernel)) (by decide +kernel)
theorem yw35 : (Jvm.Cond.code ({ cls := "java/lang/StringBuilder", name := "length", desc := "()I" } : Jvm.MethodName) prog_31_method_93_code (1 : Nat) (Option.some Jvm.ClassFile.FieldType.int)) ∈ xAll := xin5 (List.mem_of_getElem? (i := 97) (by decide +kernel)) (by decide +kernel)
theorem xGO {own C owner : String} {idx : Nat} {x y : MethodName} {a b : Cond} (h1 : Cond.methodLink own idx x ∈ xAll) (h2 : Cond.sameMethod x.cls owner x.name x.desc ∈ xAll) (h0 : Cond.instanceMethod ⟨owner, x.name, x.desc⟩ ∈ xAll) (h3 : Cond.selects C x y ∈ xAll) (h4 : Cond.instanceMethod y ∈ xAll) (h5 : Cond.initialized y.cls ∈ xAll) (h6 : b ∈ xAll) : GoodIn (a :: xAll) (va_wsO own idx C owner x y (b :: xAll)) :=
  goodIn_app (xGoodL (fun w hw => by
    simp only [List.mem_cons, List.not_mem_nil, or_false] at hw
    rcases hw with rfl | rfl | rfl | rfl | rfl | rfl <;> assumption)) (xGood h6)
theorem yw36 : (Jvm.Cond.code ({ cls := "java/lang/AbstractStringBuilder", name := "length", desc := "()I" } : Jvm.MethodName) prog_14_method_6_code (1 : Nat) (Option.some Jvm.ClassFile.FieldType.int)) ∈ xAll := xin5 (List.mem_of_getElem? (i := 99) (by decide +kernel)) (by decide +kernel)
theorem s_lenU : xSvU M_J0_init_db425 M_J4_length_8abf5 "java/lang/StringBuilder" "java/lang/AbstractStringBuilder" ({ cls := "java/lang/AbstractStringBuilder", name := "length", desc := "()I" } : Jvm.MethodName) 549 0 := fun s args hts => va_cwO 0 hts (xGO yw29 yw30 yw31 yw32 yw33 yw34 yw35) rfl rfl rfl (List.mem_cons_of_mem _ (yw36)) (by decide +kernel) ⟨Nat.le_of_ble_eq_true rfl, Nat.le_of_ble_eq_true rfl⟩
set_option maxRecDepth 100000 in
set_option maxHeartbeats 4000000 in
theorem ct_J0_init_db425 {E : xE} {Po : xPo} {w : xW} {s : Nat} {b : Nat} {va cap : Nat} {ml ct : Int32} {f : Nat → Int32} {l : List Int32} (H : HB E w b (va, cap, ml, ct, f)) (hL : hasL (va, cap, ml, ct, f) l) (hl : l.length ≠ 16 ∧ l.length < 34) (hs : w.1 s = some (.inr (0, [.null, .int 0, .int 0, .int 0]))) (hsn : s < w.2) (hsb : s ≠ b ∧ s ≠ va) (hp : Po (.inl none) (xset (xadd (xset w s (.inr (0, [.null, .int 0, .int 0, .int 0]))) (.inl (E.1.2 7, l.length, .inl (va_cpy f (fun _ => 0) 0 0 l.length)))) s (stE w.2))) : Ct M_J0_init_db425 E [.ref s, .ref b, .null] w Po := by
  refine Ct.of (ws2 := xAll) (L := [some (.ref s), some (.ref b), some (.null), none, none]) (by decide +kernel) rfl rfl (List.forall_mem_cons.mpr ⟨rfl, List.forall_mem_cons.mpr ⟨rfl, List.forall_mem_cons.mpr ⟨rfl, fun _ h => absurd h List.not_mem_nil⟩⟩⟩) (Nat.le_of_ble_eq_true rfl) rfl ?_
  obtain rfl : ct = nI l.length := hL.1
  have hcap : l.length < cap := by
    have h1 := hL.2.1
    have h2 := hL.2.2.1.1
    dsimp only at h1 h2
    omega
  have hc5 : cap ≤ 125 := hL.2.2.1.2
  refine r_aload_n (q := 1) dJ0_init_db425_0 rfl rfl rfl ?_
  refine r_objInit (q := 4) dJ0_init_db425_1 o_J0_init_db425 (List.mem_cons_of_mem _ oi1) (List.mem_cons_of_mem _ oi2) (Nat.le_of_ble_eq_true rfl) (Nat.le_of_ble_eq_true rfl) (Nat.le_of_ble_eq_true rfl) rfl ?_
  refine r_aload_n (q := 5) dJ0_init_db425_4 rfl rfl rfl ?_
  refine r_callVC (q := 8) (ci := 1) (As := []) dJ0_init_db425_5 s_J0_init_db425_552 H.1 rfl rfl rfl (Nat.le_of_ble_eq_true rfl) rfl rfl rfl (Nat.le_of_ble_eq_true rfl) (Nat.le_of_ble_eq_true rfl) ⟨(Nat.le_of_ble_eq_true rfl), (Nat.le_of_ble_eq_true rfl)⟩ rfl ?_
  refine ct_J5_getValue_6d5f1 H ?_
  show WF _ E Po _ _ _ _ _ _ _
  refine r_astore_n (q := 9) dJ0_init_db425_8 rfl (Nat.le_of_ble_eq_true rfl) (xone_of rfl) rfl ?_
  refine r_aload_n (q := 10) dJ0_init_db425_9 rfl rfl rfl ?_
  refine r_callUV (q := 13) (ci := 1) (As := []) dJ0_init_db425_10 s_lenU H.1 rfl rfl (Nat.le_of_ble_eq_true rfl) rfl rfl rfl ⟨(Nat.le_of_ble_eq_true rfl), (Nat.le_of_ble_eq_true rfl)⟩ rfl ?_
  refine ct_J4_length_8abf5 H ?_
  show WF _ E Po _ _ _ _ _ _ _
  refine r_istore (q := 15) dJ0_init_db425_13 (Nat.le_of_ble_eq_true rfl) (xone_of rfl) rfl ?_
  refine r_aload_n (q := 16) dJ0_init_db425_15 rfl rfl rfl ?_
  refine r_callVC (q := 19) (ci := 1) (As := []) dJ0_init_db425_16 s_J0_init_db425_1047 H.1 rfl rfl rfl (Nat.le_of_ble_eq_true rfl) rfl rfl rfl (Nat.le_of_ble_eq_true rfl) (Nat.le_of_ble_eq_true rfl) ⟨(Nat.le_of_ble_eq_true rfl), (Nat.le_of_ble_eq_true rfl)⟩ rfl ?_
  refine ct_J5_isLatin1_aae02 H ?_
  show WF _ E Po _ _ _ _ _ _ _
  refine r_if_eq (q := 41) (q2 := 22) dJ0_init_db425_19 (by decide) rfl (fun h9 => absurd h9 (by decide)) (fun _ => ?_)
  refine r_aload_n (q := 23) dJ0_init_db425_22 rfl rfl rfl ?_
  refine r_iconst (q := 24) (v := 0) dJ0_init_db425_23 rfl rfl ?_
  refine r_putfieldF (q := 27) dJ0_init_db425_24 f_J0_init_db425_15 rfl rfl hs rfl rfl (Nat.le_of_ble_eq_true rfl) rfl ?_
  have H1 : (xset w s (.inr (0, [.null, .int 0, .int 0, .int 0]))).1 va = some (.inl (E.1.2 7, cap, .inl f)) := (xset_o (Ne.symm hsb.2)).trans H.2.1
  refine WF.cw (show xset w s _ = xset w s (.inr (0, [.null, .int 0, .int 0, .int 0])) from rfl) ?_
  refine r_aload_n (q := 28) dJ0_init_db425_27 rfl rfl rfl ?_
  refine r_aload_n (q := 29) dJ0_init_db425_28 rfl rfl rfl ?_
  refine r_iconst (q := 30) (v := 0) dJ0_init_db425_29 rfl rfl ?_
  refine r_iload (q := 32) dJ0_init_db425_30 rfl rfl ?_
  refine r_callS (q := 35) (As := [_, _, _]) dJ0_init_db425_32 s_J0_init_db425_54 rfl rfl (Nat.le_of_ble_eq_true rfl) rfl rfl rfl (Nat.le_of_ble_eq_true rfl) (Nat.le_of_ble_eq_true rfl) ⟨(Nat.le_of_ble_eq_true rfl), (Nat.le_of_ble_eq_true rfl)⟩ rfl ?_
  refine ct_J7_copyOfRange_39247 H1 H.2.2.2 hcap (by omega) (by omega) hL.2.2.2.2.2 ?_
  show WF _ E Po _ _ _ _ _ _ _
  have hs2 : (xadd (xset w s (.inr (0, [.null, .int 0, .int 0, .int 0]))) (.inl (E.1.2 7, l.length, .inl (va_cpy f (fun _ => 0) 0 0 l.length)))).1 s = some (.inr (0, [.null, .int 0, .int 0, .int 0])) := (xadd_o (w := xset w s (.inr (0, [.null, .int 0, .int 0, .int 0]))) (show s ≠ w.2 from Nat.ne_of_lt hsn)).trans xset_s
  refine r_putfieldF (q := 38) dJ0_init_db425_35 f_J0_init_db425_9 rfl rfl hs2 rfl rfl (Nat.le_of_ble_eq_true rfl) rfl ?_
  refine r_goto (q := 97) dJ0_init_db425_38 (by decide) ?_
  refine r_vret dJ0_init_db425_97 rfl (Nat.le_of_ble_eq_true rfl) (Nat.le_of_ble_eq_true rfl) ?_
  exact hp
theorem dJ0_init_81219_0 : decode cJ0_init_81219 0 = .ok (.aload_n 0, 1) := by decide +kernel
theorem dJ0_init_81219_1 : decode cJ0_init_81219 1 = .ok (.aload_n 1, 1) := by decide +kernel
theorem dJ0_init_81219_2 : decode cJ0_init_81219 2 = .ok (.aconst_null, 1) := by decide +kernel
theorem dJ0_init_81219_3 : decode cJ0_init_81219 3 = .ok (.invokespecial 489, 3) := by decide +kernel
theorem dJ0_init_81219_6 : decode cJ0_init_81219 6 = .ok (.return_, 1) := by decide +kernel
/-- java/lang/String.<init>(Ljava/lang/StringBuilder;)V -/
def M_J0_init_81219 : xM := (yJ0_init_81219, cJ0_init_81219, 2, none, Cond.code yJ0_init_81219 cJ0_init_81219 2 none :: xAll, { frames := 14, cells := 1, slots := 60, locals := 295 }, (1, 60), [])
theorem yw37 : (Jvm.Cond.code ({ cls := "java/lang/String", name := "<init>", desc := "(Ljava/lang/AbstractStringBuilder;Ljava/lang/Void;)V" } : Jvm.MethodName) prog_30_method_150_code (5 : Nat) (Option.none : Option Jvm.ClassFile.FieldType)) ∈ xAll := xin5 (List.mem_of_getElem? (i := 85) (by decide +kernel)) (by decide +kernel)
theorem yw38 : (Jvm.Cond.initialized "java/lang/String") ∈ xAll := xin1 (List.mem_of_getElem? (i := 13) (by decide +kernel)) (by decide +kernel)
theorem yw39 : (Jvm.Cond.methodLink "java/lang/String" (489 : Nat) ({ cls := "java/lang/String", name := "<init>", desc := "(Ljava/lang/AbstractStringBuilder;Ljava/lang/Void;)V" } : Jvm.MethodName)) ∈ xAll := xin5 (List.mem_of_getElem? (i := 83) (by decide +kernel)) (by decide +kernel)
theorem yw40 : (Jvm.Cond.instanceMethod ({ cls := "java/lang/String", name := "<init>", desc := "(Ljava/lang/AbstractStringBuilder;Ljava/lang/Void;)V" } : Jvm.MethodName)) ∈ xAll := xin5 (List.mem_of_getElem? (i := 84) (by decide +kernel)) (by decide +kernel)
theorem s_J0_init_81219_489 : xSi M_J0_init_81219 M_J0_init_db425 489 2 := fun s args hts => ⟨callB_of 2 hts (xGood yw37) rfl rfl rfl (hts _ (List.mem_cons_of_mem _ (yw38))) (hts _ (List.mem_cons_of_mem _ (yw39))) (by decide +kernel) ⟨Nat.le_of_ble_eq_true rfl, Nat.le_of_ble_eq_true rfl⟩, rfl, (hts _ (List.mem_cons_of_mem _ (yw40)))⟩
set_option maxRecDepth 100000 in
set_option maxHeartbeats 4000000 in
theorem ct_J0_init_81219 {E : xE} {Po : xPo} {w : xW} {s : Nat} {b : Nat} {va cap : Nat} {ml ct : Int32} {f : Nat → Int32} {l : List Int32} (H : HB E w b (va, cap, ml, ct, f)) (hL : hasL (va, cap, ml, ct, f) l) (hl : l.length ≠ 16 ∧ l.length < 34) (hs : w.1 s = some (.inr (0, [.null, .int 0, .int 0, .int 0]))) (hsn : s < w.2) (hsb : s ≠ b ∧ s ≠ va) (hp : Po (.inl none) (xset (xadd (xset w s (.inr (0, [.null, .int 0, .int 0, .int 0]))) (.inl (E.1.2 7, l.length, .inl (va_cpy f (fun _ => 0) 0 0 l.length)))) s (stE w.2))) : Ct M_J0_init_81219 E [.ref s, .ref b] w Po := by
  refine Ct.of (ws2 := xAll) (L := [some (.ref s), some (.ref b)]) (by decide +kernel) rfl rfl (List.forall_mem_cons.mpr ⟨rfl, List.forall_mem_cons.mpr ⟨rfl, fun _ h => absurd h List.not_mem_nil⟩⟩) (Nat.le_of_ble_eq_true rfl) rfl ?_
  refine r_aload_n (q := 1) dJ0_init_81219_0 rfl rfl rfl ?_
  refine r_aload_n (q := 2) dJ0_init_81219_1 rfl rfl rfl ?_
  refine r_null (q := 3) dJ0_init_81219_2 rfl ?_
  refine r_callI (q := 6) (As := [_, _]) dJ0_init_81219_3 s_J0_init_81219_489 rfl (Nat.le_of_ble_eq_true rfl) rfl rfl rfl ⟨(Nat.le_of_ble_eq_true rfl), (Nat.le_of_ble_eq_true rfl)⟩ rfl ?_
  refine ct_J0_init_db425 H hL hl hs hsn hsb ?_
  show WF _ E Po _ _ _ _ _ _ _
  refine r_vret dJ0_init_81219_6 rfl (Nat.le_of_ble_eq_true rfl) (Nat.le_of_ble_eq_true rfl) ?_
  exact hp
theorem dJ4_toString_0e30d_0 : decode cJ4_toString_0e30d 0 = .ok (.new 18, 3) := by decide +kernel
theorem dJ4_toString_0e30d_3 : decode cJ4_toString_0e30d 3 = .ok (.dup, 1) := by decide +kernel
theorem dJ4_toString_0e30d_4 : decode cJ4_toString_0e30d 4 = .ok (.aload_n 0, 1) := by decide +kernel
theorem dJ4_toString_0e30d_5 : decode cJ4_toString_0e30d 5 = .ok (.invokespecial 137, 3) := by decide +kernel
theorem dJ4_toString_0e30d_8 : decode cJ4_toString_0e30d 8 = .ok (.areturn, 1) := by decide +kernel
/-- java/lang/StringBuilder.toString()Ljava/lang/String; -/
def M_J4_toString_0e30d : xM := (yJ4_toString_0e30d, cJ4_toString_0e30d, 1, (some (FieldType.object "java/lang/String")), Cond.code yJ4_toString_0e30d cJ4_toString_0e30d 1 (some (FieldType.object "java/lang/String")) :: xAll, { frames := 15, cells := 2, slots := 70, locals := 316 }, (2, 70), [])
theorem yw41 : (Jvm.Cond.code ({ cls := "java/lang/String", name := "<init>", desc := "(Ljava/lang/StringBuilder;)V" } : Jvm.MethodName) prog_30_method_53_code (2 : Nat) (Option.none : Option Jvm.ClassFile.FieldType)) ∈ xAll := xin5 (List.mem_of_getElem? (i := 82) (by decide +kernel)) (by decide +kernel)
theorem yw42 : (Jvm.Cond.methodLink "java/lang/StringBuilder" (137 : Nat) ({ cls := "java/lang/String", name := "<init>", desc := "(Ljava/lang/StringBuilder;)V" } : Jvm.MethodName)) ∈ xAll := xin5 (List.mem_of_getElem? (i := 80) (by decide +kernel)) (by decide +kernel)
theorem yw43 : (Jvm.Cond.instanceMethod ({ cls := "java/lang/String", name := "<init>", desc := "(Ljava/lang/StringBuilder;)V" } : Jvm.MethodName)) ∈ xAll := xin5 (List.mem_of_getElem? (i := 81) (by decide +kernel)) (by decide +kernel)
theorem s_J4_toString_0e30d_137 : xSi M_J4_toString_0e30d M_J0_init_81219 137 1 := fun s args hts => ⟨callB_of 1 hts (xGood yw41) rfl rfl rfl (hts _ (List.mem_cons_of_mem _ (yw38))) (hts _ (List.mem_cons_of_mem _ (yw42))) (by decide +kernel) ⟨Nat.le_of_ble_eq_true rfl, Nat.le_of_ble_eq_true rfl⟩, rfl, (hts _ (List.mem_cons_of_mem _ (yw43)))⟩
theorem yw44 : (Jvm.Cond.classLink "java/lang/StringBuilder" (18 : Nat) "java/lang/String") ∈ xAll := xin5 (List.mem_of_getElem? (i := 79) (by decide +kernel)) (by decide +kernel)
theorem yw45 : (Jvm.Cond.instantiable "java/lang/String" (4 : Nat)) ∈ xAll := xin3 (List.mem_of_getElem? (i := 42) (by decide +kernel)) (by decide +kernel)
theorem nw_J4_toString_0e30d_18 : xNew M_J4_toString_0e30d 18 0 4 [.null, .int 0, .int 0, .int 0] := ⟨RJ0, TJ0, tyJ0, rfl, fun w h => List.mem_cons_of_mem _ (inJ0 w h), List.mem_cons_of_mem _ (yw44), List.mem_cons_of_mem _ (yw45), List.mem_cons_of_mem _ (yw38), tyJ0_ok, by decide +kernel⟩
set_option maxRecDepth 100000 in
set_option maxHeartbeats 4000000 in
theorem ct_J4_toString_0e30d {E : xE} {Po : xPo} {w : xW} {b : Nat} {va cap : Nat} {ml ct : Int32} {f : Nat → Int32} {l : List Int32} (H : HB E w b (va, cap, ml, ct, f)) (hL : hasL (va, cap, ml, ct, f) l) (hl : l.length ≠ 16 ∧ l.length < 34) (hp : ∀ (u : xW) (g : Nat → Int32), TS E u w.2 (w.2 + 1) g l → hasX g l → u.2 = w.2 + 2 → (∀ a, a < w.2 → u.1 a = w.1 a) → Po (.inl (some (.ref w.2))) u) : Ct M_J4_toString_0e30d E [.ref b] w Po := by
  refine Ct.of (ws2 := xAll) (L := [some (.ref b)]) (by decide +kernel) rfl rfl (List.forall_mem_cons.mpr ⟨rfl, fun _ h => absurd h List.not_mem_nil⟩) (Nat.le_of_ble_eq_true rfl) rfl ?_
  refine r_new (q := 3) dJ4_toString_0e30d_0 nw_J4_toString_0e30d_18 (Nat.le_of_ble_eq_true rfl) (Nat.le_of_ble_eq_true rfl) rfl ?_
  refine r_dup (q := 4) dJ4_toString_0e30d_3 rfl rfl ?_
  refine r_aload_n (q := 5) dJ4_toString_0e30d_4 rfl rfl rfl ?_
  refine r_callI (q := 8) (As := [_]) dJ4_toString_0e30d_5 s_J4_toString_0e30d_137 rfl (Nat.le_of_ble_eq_true rfl) rfl rfl rfl ⟨(Nat.le_of_ble_eq_true rfl), (Nat.le_of_ble_eq_true rfl)⟩ rfl ?_
  have hb2 : b < w.2 := Nat.lt_trans H.2.2.1 H.2.2.2
  have hv2 : va < w.2 := H.2.2.2
  have Hx : HB E (xadd w (.inr (0, [.null, .int 0, .int 0, .int 0]))) b (va, cap, ml, ct, f) := ⟨(xadd_o (Nat.ne_of_lt hb2)).trans H.1, (xadd_o (Nat.ne_of_lt hv2)).trans H.2.1, H.2.2.1, Nat.lt_succ_of_lt hv2⟩
  refine ct_J0_init_81219 Hx hL hl xadd_s (Nat.lt_succ_self _) ⟨Nat.ne_of_gt hb2, Nat.ne_of_gt hv2⟩ ?_
  show WF _ E Po _ _ _ _ _ _ _
  refine r_aret dJ4_toString_0e30d_8 rfl (Or.inr ⟨_, rfl⟩) (Nat.le_of_ble_eq_true rfl) (Nat.le_of_ble_eq_true rfl) (hp _ (va_cpy f (fun _ => 0) 0 0 l.length) ⟨xset_s, ?_⟩ ⟨by omega, fun j hj => ?_, hL.2.2.2.2.1, sb_fitC hL.2.2.2.2.2 sb_fit0⟩ rfl (fun a ha => ?_))
  · refine (xset_o (show w.2 + 1 ≠ w.2 by omega)).trans ?_
    exact xadd_s
  · rw [pk_cpy_in (Nat.zero_le _) (by omega), show 0 + (j - 0) = j by omega]
    exact hL.2.2.2.1 j hj
  · refine (xset_o (Nat.ne_of_lt ha)).trans ((xadd_o (show a ≠ w.2 + 1 by omega)).trans ((xset_o (Nat.ne_of_lt ha)).trans (xadd_o (Nat.ne_of_lt ha))))
