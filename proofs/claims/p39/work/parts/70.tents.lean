/-! ===== 70.tents: tents and their lines (rows laid by wip/p39/gen/make70.py) ===== -/
theorem inD_of {K : Nat} {c : xCo} (J : J9 K c) : inD c := by
  refine ⟨fun j hj => ?_, fun j hj => ?_, fun u hu => ?_, fun g hg => ?_⟩
  · obtain ⟨l, h, e⟩ := (J.2.2.1 j hj).2.2.1
    exact ⟨l, by omega, e⟩
  · obtain ⟨l, h0, h, e⟩ := (J.2.2.1 j hj).2.2.2.1
    exact ⟨l, by omega, e⟩
  · obtain ⟨l, h, e⟩ := (J.2.2.2.1 u hu).2
    exact ⟨l, by omega, e⟩
  · obtain ⟨l, h, e⟩ := J.2.2.2.2.1 g hg
    exact ⟨l, by omega, e⟩
theorem by_t : byts 24 = byts 14 ∧ byts 27 = byts 15 ∧ byts 28 = [32] ∧ byts 29 = [99] ∧ byts 30 = [] ∧ byts 31 = byts 16 ∧ byts 32 = byts 17 := by decide +kernel
theorem by_l : (byts 24).length = 7 ∧ (byts 27).length = 6 ∧ (byts 28).length = 1 ∧ (byts 29).length = 1 ∧ (byts 30).length = 0 ∧ (byts 31).length = 2 ∧ (byts 32).length = 2 := by decide +kernel
section TNT
variable {K k : Nat} {c : xCo}
theorem tt_tub (J : J9 K c) (h : k < n2 c) (ht : ¬ c.2.2.1 k 1 < 0) : lTubOf c (c.2.2.1 k 1) 1 = nI k := by
  obtain ⟨u, hu, e1, e2⟩ := tn_tub J h ht
  rw [e1, at_1 J hu, e2]
theorem tt_htr (J : J9 K c) (h : k < n2 c) (ht : ¬ c.2.2.1 k 2 < 0) : lHeaterOf c (c.2.2.1 k 2) 0 = nI k := by
  obtain ⟨u, hu, e1, e2⟩ := tn_heater J h ht
  rw [e1, ag_0 J hu, e2]
theorem tt_end (J : J9 K c) (h : k < n2 c) : lWaiting c (nI k) (c.2.2.1 k 4) = -13 := by
  have n8 := J.1.2.1.2
  unfold lWaiting
  rw [if_pos (okU_in J h), nI_cl (by omega), show gAtS (c.2.2.1 k) (c.2.2.1 k 4) = -1 from if_pos (Or.inr (Or.inl (Int32.le_refl _)))]
  rfl
theorem tt_at (J : J9 K c) (h : k < n2 c) {p : Nat} (hp : p < wt c k) {g : Nat} (eg : c.2.2.1 k (5 + p) = nI g) (hg : g < 2147483648) : lWaiting c (nI k) (nI p) = nI g := by
  have n8 := J.1.2.1.2
  obtain ⟨w1, w2⟩ := J.wtq (u := k) (by omega)
  have e1 : gAtS (c.2.2.1 k) (nI p) = nI g := (gat_in w2 w1 hp).trans eg
  unfold lWaiting
  rw [if_pos (okU_in J h), nI_cl (by omega), e1, if_pos (nI_pos' hg)]
/-- the guest before, in a queue -/
def lsG (c : xCo) (k : Nat) : Nat → Int32
  | 0 => -1
  | p + 1 => c.2.2.1 k (5 + p)
theorem ls_lt {m p g : Nat} (G : GQ m c) (h5 : k < 5) (hp : p < wt c k) (eg : c.2.2.1 k (5 + p) = nI g) (hg : g < 2147483648) : ¬ nI g ≤ lsG c k p := by
  cases p with
  | zero => exact fun q => (nI_pos (n := g) hg) (Int32.lt_of_le_of_lt q (show (-1 : Int32) < 0 by decide))
  | succ q =>
    obtain ⟨cl, us, ca, ba, a, b, d, e, Q, D⟩ := G
    have h2 := Q.2.2 k q h5 hp
    rw [eg] at h2
    exact Int32.not_le.mpr h2
theorem tbx_in {t : Nat} (J : J9 K c) (ht : t < n1 c) : tbx c (nI t) = tbL c t := by
  have n8 := J.1.1.2
  unfold tbx
  rw [if_pos (okT_in J ht), nI_cl (by omega)]
theorem tbx_no {x : Int32} (h : x < 0) : tbx c x = byts 24 := by
  rw [by_t.1]
  exact if_neg (fun q => q.1 h)
theorem tbL_0 {t L : Nat} {l : List Int32} (eL : c.2.1 t 3 = nI L) (hL : L < 1000) (q : nI L ≤ 0) : l ++ [32] ++ digs t ++ [32] ++ digs L ++ [108] ++ byts 30 = l ++ tbL c t := by
  unfold tbL
  rw [eL, nI_cl (by omega), if_pos q, by_t.2.2.2.2.1]
  simp only [List.append_assoc, List.append_nil]
theorem tbL_1 {t L T : Nat} {l : List Int32} (eL : c.2.1 t 3 = nI L) (hL : L < 1000) (q : ¬ nI L ≤ 0) (eT : c.2.1 t 4 = nI T) (hT : T < 1000) (q5 : ¬ bb (c.2.1 t 5) = 1) : l ++ [32] ++ digs t ++ [32] ++ digs L ++ [108] ++ ([] ++ byts 28 ++ digs T ++ byts 29 ++ byts 30) = l ++ tbL c t := by
  have e0 : bb (c.2.1 t 5) = 0 := Classical.byContradiction fun z => q5 (if_neg (fun y => z (if_pos y)))
  unfold tbL
  rw [eL, nI_cl (by omega), if_neg q, eT, nI_cl (by omega), if_pos e0, by_t.2.2.2.2.1, by_t.2.2.1, by_t.2.2.2.1]
  simp only [List.append_assoc, List.append_nil, List.nil_append]
theorem tbL_2 {t L T : Nat} {l : List Int32} (eL : c.2.1 t 3 = nI L) (hL : L < 1000) (q : ¬ nI L ≤ 0) (eT : c.2.1 t 4 = nI T) (hT : T < 1000) (q5 : bb (c.2.1 t 5) = 1) : l ++ [32] ++ digs t ++ [32] ++ digs L ++ [108] ++ ([] ++ byts 28 ++ digs T ++ byts 29 ++ byts 27) = l ++ tbL c t := by
  have e0 : ¬ bb (c.2.1 t 5) = 0 := by rw [q5]; decide
  unfold tbL
  rw [eL, nI_cl (by omega), if_neg q, eT, nI_cl (by omega), if_neg e0, by_t.2.1, by_t.2.2.1, by_t.2.2.2.1]
  simp only [List.append_assoc, List.nil_append]
noncomputable def hpx (c : xCo) (x : Int32) : List Int32 := if okG c x then byts 16 ++ digs (c.2.2.2 x.toNatClampNeg 0).toNatClampNeg else []
noncomputable def wpx (x : Int32) : List Int32 := if x ≤ 0 then [] else byts 17 ++ digs x.toNatClampNeg
theorem line_e {u : Nat} : digs u ++ [58] ++ tbx c (c.2.2.1 u 1) ++ hpx c (c.2.2.1 u 2) ++ wpx (c.2.2.1 u 4) = lineC c u := by
  unfold lineC hpx wpx
  simp only [List.append_assoc]
theorem hpx_0 {x : Int32} {l : List Int32} (h : x < 0) : l ++ byts 30 = l ++ hpx c x := by
  rw [by_t.2.2.2.2.1]
  exact congrArg (l ++ ·) (if_neg (fun q => q.1 h)).symm
theorem hpx_1 {g b : Nat} {l : List Int32} (J : J9 K c) (hg : g < n3 c) (eb : c.2.2.2 g 0 = nI b) (hb : b < 1000) : l ++ ([] ++ byts 31 ++ digs b) = l ++ hpx c (nI g) := by
  have n8 := J.1.2.2.2
  unfold hpx
  rw [if_pos (okG_in J hg), nI_cl (by omega), eb, nI_cl (by omega), by_t.2.2.2.2.2.1, List.nil_append]
theorem wpx_0 {x : Int32} {l : List Int32} (h : x ≤ 0) : l ++ byts 30 = l ++ wpx x := by
  rw [by_t.2.2.2.2.1]
  exact congrArg (l ++ ·) (if_pos h).symm
theorem wpx_1 {b : Nat} {l : List Int32} (h : ¬ nI b ≤ 0) (hb : b < 1000) : l ++ ([] ++ byts 32 ++ digs b) = l ++ wpx (nI b) := by
  unfold wpx
  rw [if_neg h, nI_cl (by omega), by_t.2.2.2.2.2.2, List.nil_append]
end TNT
set_option maxRecDepth 100000 in
set_option maxHeartbeats 4000000 in
theorem tt_1 {E : xE} {Po : xPo} {w0 w9 w : xW} {x K m j k n : Nat} {h h9 : xHi} {TB HT : Int32} {W : Nat} {o2 o3 o4 o5 o6 o7 : Option Value} (J : J9 K (h.1 0)) (hj : j < n2 (h.1 0)) (eT : (h.1 0).2.2.1 j 1 = TB) (eH : (h.1 0).2.2.1 j 2 = HT) (eW : (h.1 0).2.2.1 j 4 = nI W) (hW : W ≤ 6) (H : HI E w x h) (X : FX w9 w x h9 h) (hk : k ≤ 250 * j + 0) (hn : n ≤ 10000 * j + 0) (kx : ∀ (u : xW) (k n : Nat), HI E u x h → FX w9 u x h9 h → k ≤ 250 * j + 20 → n ≤ 10000 * j + 120 → WF M_L_tents E Po w0 82 [some (.ref x), some (.int (nI j)), some (.int TB), some (.int HT), some (.int (nI W)), o5, o6, o7] [] u k n) : WF M_L_tents E Po w0 2 [some (.ref x), some (.int (nI j)), o2, o3, o4, o5, o6, o7] [] w k n := by
  have n5 := J.1.2.1.2
  refine r_iload_n (q := 3) dL_tents_2 rfl rfl rfl ?_
  refine r_aload_n (q := 4) dL_tents_3 rfl rfl rfl ?_
  refine r_iconst (q := 5) (v := 4) dL_tents_4 rfl rfl ?_
  refine r_callV (q := 8) (ci := 11) (k2 := k + 1) (n2 := n + 6) (As := [_]) dL_tents_5 s_L_tents_184 H.1.1 rfl rfl rfl (Nat.le_of_ble_eq_true rfl) rfl rfl rfl (show k + 1 ≤ 2000 by omega) (show n + 6 ≤ 60000 by omega) ⟨(show k + 1 ≤ 2000 by omega), (show n + 6 ≤ 60000 by omega)⟩ rfl ?_
  refine la_number H J.inC (by decide) (by decide) (by decide) (by decide) ?_
  show WF _ E Po _ _ _ _ _ _ _
  rw [show stToldS (h.1 0) 4 = nI (n2 (h.1 0)) from J.1.2.1.1]
  refine r_icmp_ge (q := 400) (q2 := 11) dL_tents_8 (by decide) rfl (fun h9 => absurd h9 (nI_ge (show j < n2 (h.1 0) by omega) (by omega))) (fun _ => ?_)
  refine r_aload_n (q := 12) dL_tents_11 rfl rfl rfl ?_
  refine r_iload_n (q := 13) dL_tents_12 rfl rfl rfl ?_
  refine r_iconst (q := 14) (v := 1) dL_tents_13 rfl rfl ?_
  refine r_callSH (q := 17) (k2 := k + 2) (n2 := n + 12) (As := [_, _, _]) dL_tents_14 s_L_tents_189 rfl rfl (Nat.le_of_ble_eq_true rfl) rfl rfl rfl (show k + 2 ≤ 2000 by omega) (show n + 12 ≤ 60000 by omega) ⟨(show k + 2 ≤ 2000 by omega), (show n + 12 ≤ 60000 by omega)⟩ rfl ?_
  refine la_tentOf H (fun u1 H1 F1 => ?_)
  show WF _ E Po _ _ _ _ _ _ _
  have X1 := X.tr F1
  rw [au_1 J hj, eT]
  refine r_istore_n (q := 18) dL_tents_17 rfl (Nat.le_of_ble_eq_true rfl) (xone_of rfl) rfl ?_
  refine r_aload_n (q := 19) dL_tents_18 rfl rfl rfl ?_
  refine r_iload_n (q := 20) dL_tents_19 rfl rfl rfl ?_
  refine r_iconst (q := 21) (v := 2) dL_tents_20 rfl rfl ?_
  refine r_callSH (q := 24) (k2 := k + 3) (n2 := n + 18) (As := [_, _, _]) dL_tents_21 s_L_tents_189 rfl rfl (Nat.le_of_ble_eq_true rfl) rfl rfl rfl (show k + 3 ≤ 2000 by omega) (show n + 18 ≤ 60000 by omega) ⟨(show k + 3 ≤ 2000 by omega), (show n + 18 ≤ 60000 by omega)⟩ rfl ?_
  refine la_tentOf H1 (fun u2 H2 F2 => ?_)
  show WF _ E Po _ _ _ _ _ _ _
  have X2 := X1.tr F2
  rw [au_2 J hj, eH]
  refine r_istore_n (q := 25) dL_tents_24 rfl (Nat.le_of_ble_eq_true rfl) (xone_of rfl) rfl ?_
  refine r_aload_n (q := 26) dL_tents_25 rfl rfl rfl ?_
  refine r_iload_n (q := 27) dL_tents_26 rfl rfl rfl ?_
  refine r_iconst (q := 28) (v := 3) dL_tents_27 rfl rfl ?_
  refine r_callSH (q := 31) (k2 := k + 4) (n2 := n + 24) (As := [_, _, _]) dL_tents_28 s_L_tents_189 rfl rfl (Nat.le_of_ble_eq_true rfl) rfl rfl rfl (show k + 4 ≤ 2000 by omega) (show n + 24 ≤ 60000 by omega) ⟨(show k + 4 ≤ 2000 by omega), (show n + 24 ≤ 60000 by omega)⟩ rfl ?_
  refine la_tentOf H2 (fun u3 H3 F3 => ?_)
  show WF _ E Po _ _ _ _ _ _ _
  have X3 := X2.tr F3
  rw [au_3 J hj, eW]
  refine r_istore (q := 33) dL_tents_31 (Nat.le_of_ble_eq_true rfl) (xone_of rfl) rfl ?_
  refine r_iload_n (q := 34) dL_tents_33 rfl rfl rfl ?_
  refine r_if_lt (q := 47) (q2 := 37) dL_tents_34 (by decide) rfl (fun q1 => ?_) (fun q1 => ?_)
  · refine r_iload_n (q := 48) dL_tents_47 rfl rfl rfl ?_
    refine r_if_lt (q := 61) (q2 := 51) dL_tents_48 (by decide) rfl (fun q2 => ?_) (fun q2 => ?_)
    · refine r_iload (q := 63) dL_tents_61 rfl rfl ?_
      refine r_bipush (q := 65) (v := 6) dL_tents_63 (by decide) rfl ?_
      refine r_icmp_gt (q := 80) (q2 := 68) dL_tents_65 (by decide) rfl (fun h9 => absurd h9 (fun q => by have := (nI_ltI (a := 6) (by decide) (by omega)).mp q; omega)) (fun _ => ?_)
      refine r_aload_n (q := 69) dL_tents_68 rfl rfl rfl ?_
      refine r_iload_n (q := 70) dL_tents_69 rfl rfl rfl ?_
      refine r_iload (q := 72) dL_tents_70 rfl rfl ?_
      refine r_callSH (q := 75) (k2 := k + 5) (n2 := n + 30) (As := [_, _, _]) dL_tents_72 s_L_tents_205 rfl rfl (Nat.le_of_ble_eq_true rfl) rfl rfl rfl (show k + 5 ≤ 2000 by omega) (show n + 30 ≤ 60000 by omega) ⟨(show k + 5 ≤ 2000 by omega), (show n + 30 ≤ 60000 by omega)⟩ rfl ?_
      refine la_waiting H3 (fun u4 H4 F4 => ?_)
      show WF _ E Po _ _ _ _ _ _ _
      have X4 := X3.tr F4
      rw [← eW, tt_end J hj]
      refine r_bipush (q := 77) (v := (-13)) dL_tents_75 (by decide) rfl ?_
      refine r_icmp_eq (q := 82) (q2 := 80) dL_tents_77 (by decide) rfl (fun _ => ?_) (fun h9 => absurd rfl h9)
      first
        | exact kx _ (k + 5) (n + 30) H4 X4 (by omega) (by omega)
        | (rw [eT, eH, eW]; exact kx _ (k + 5) (n + 30) H4 X4 (by omega) (by omega))
        | (rw [eT, eW]; exact kx _ (k + 5) (n + 30) H4 X4 (by omega) (by omega))
        | (rw [eH, eW]; exact kx _ (k + 5) (n + 30) H4 X4 (by omega) (by omega))
        | (rw [eW]; exact kx _ (k + 5) (n + 30) H4 X4 (by omega) (by omega))
    · refine r_aload_n (q := 52) dL_tents_51 rfl rfl rfl ?_
      refine r_iload_n (q := 53) dL_tents_52 rfl rfl rfl ?_
      refine r_iconst (q := 54) (v := 0) dL_tents_53 rfl rfl ?_
      refine r_callSH (q := 57) (k2 := k + 5) (n2 := n + 30) (As := [_, _, _]) dL_tents_54 s_L_tents_191 rfl rfl (Nat.le_of_ble_eq_true rfl) rfl rfl rfl (show k + 5 ≤ 2000 by omega) (show n + 30 ≤ 60000 by omega) ⟨(show k + 5 ≤ 2000 by omega), (show n + 30 ≤ 60000 by omega)⟩ rfl ?_
      refine la_heaterOf H3 (fun u5 H5 F5 => ?_)
      show WF _ E Po _ _ _ _ _ _ _
      have X5 := X3.tr F5
      rw [← eH, tt_htr J hj (by rw [eH]; exact q2)]
      refine r_iload_n (q := 58) dL_tents_57 rfl rfl rfl ?_
      refine r_icmp_ne (q := 80) (q2 := 61) dL_tents_58 (by decide) rfl (fun h9 => absurd rfl h9) (fun _ => ?_)
      refine r_iload (q := 63) dL_tents_61 rfl rfl ?_
      refine r_bipush (q := 65) (v := 6) dL_tents_63 (by decide) rfl ?_
      refine r_icmp_gt (q := 80) (q2 := 68) dL_tents_65 (by decide) rfl (fun h9 => absurd h9 (fun q => by have := (nI_ltI (a := 6) (by decide) (by omega)).mp q; omega)) (fun _ => ?_)
      refine r_aload_n (q := 69) dL_tents_68 rfl rfl rfl ?_
      refine r_iload_n (q := 70) dL_tents_69 rfl rfl rfl ?_
      refine r_iload (q := 72) dL_tents_70 rfl rfl ?_
      refine r_callSH (q := 75) (k2 := k + 6) (n2 := n + 36) (As := [_, _, _]) dL_tents_72 s_L_tents_205 rfl rfl (Nat.le_of_ble_eq_true rfl) rfl rfl rfl (show k + 6 ≤ 2000 by omega) (show n + 36 ≤ 60000 by omega) ⟨(show k + 6 ≤ 2000 by omega), (show n + 36 ≤ 60000 by omega)⟩ rfl ?_
      refine la_waiting H5 (fun u6 H6 F6 => ?_)
      show WF _ E Po _ _ _ _ _ _ _
      have X6 := X5.tr F6
      rw [← eW, tt_end J hj]
      refine r_bipush (q := 77) (v := (-13)) dL_tents_75 (by decide) rfl ?_
      refine r_icmp_eq (q := 82) (q2 := 80) dL_tents_77 (by decide) rfl (fun _ => ?_) (fun h9 => absurd rfl h9)
      first
        | exact kx _ (k + 6) (n + 36) H6 X6 (by omega) (by omega)
        | (rw [eT, eH, eW]; exact kx _ (k + 6) (n + 36) H6 X6 (by omega) (by omega))
        | (rw [eT, eW]; exact kx _ (k + 6) (n + 36) H6 X6 (by omega) (by omega))
        | (rw [eH, eW]; exact kx _ (k + 6) (n + 36) H6 X6 (by omega) (by omega))
        | (rw [eW]; exact kx _ (k + 6) (n + 36) H6 X6 (by omega) (by omega))
  · refine r_aload_n (q := 38) dL_tents_37 rfl rfl rfl ?_
    refine r_iload_n (q := 39) dL_tents_38 rfl rfl rfl ?_
    refine r_iconst (q := 40) (v := 1) dL_tents_39 rfl rfl ?_
    refine r_callSH (q := 43) (k2 := k + 5) (n2 := n + 30) (As := [_, _, _]) dL_tents_40 s_L_tents_187 rfl rfl (Nat.le_of_ble_eq_true rfl) rfl rfl rfl (show k + 5 ≤ 2000 by omega) (show n + 30 ≤ 60000 by omega) ⟨(show k + 5 ≤ 2000 by omega), (show n + 30 ≤ 60000 by omega)⟩ rfl ?_
    refine la_tubOf H3 (fun u7 H7 F7 => ?_)
    show WF _ E Po _ _ _ _ _ _ _
    have X7 := X3.tr F7
    rw [← eT, tt_tub J hj (by rw [eT]; exact q1)]
    refine r_iload_n (q := 44) dL_tents_43 rfl rfl rfl ?_
    refine r_icmp_ne (q := 80) (q2 := 47) dL_tents_44 (by decide) rfl (fun h9 => absurd rfl h9) (fun _ => ?_)
    refine r_iload_n (q := 48) dL_tents_47 rfl rfl rfl ?_
    refine r_if_lt (q := 61) (q2 := 51) dL_tents_48 (by decide) rfl (fun q2 => ?_) (fun q2 => ?_)
    · refine r_iload (q := 63) dL_tents_61 rfl rfl ?_
      refine r_bipush (q := 65) (v := 6) dL_tents_63 (by decide) rfl ?_
      refine r_icmp_gt (q := 80) (q2 := 68) dL_tents_65 (by decide) rfl (fun h9 => absurd h9 (fun q => by have := (nI_ltI (a := 6) (by decide) (by omega)).mp q; omega)) (fun _ => ?_)
      refine r_aload_n (q := 69) dL_tents_68 rfl rfl rfl ?_
      refine r_iload_n (q := 70) dL_tents_69 rfl rfl rfl ?_
      refine r_iload (q := 72) dL_tents_70 rfl rfl ?_
      refine r_callSH (q := 75) (k2 := k + 6) (n2 := n + 36) (As := [_, _, _]) dL_tents_72 s_L_tents_205 rfl rfl (Nat.le_of_ble_eq_true rfl) rfl rfl rfl (show k + 6 ≤ 2000 by omega) (show n + 36 ≤ 60000 by omega) ⟨(show k + 6 ≤ 2000 by omega), (show n + 36 ≤ 60000 by omega)⟩ rfl ?_
      refine la_waiting H7 (fun u8 H8 F8 => ?_)
      show WF _ E Po _ _ _ _ _ _ _
      have X8 := X7.tr F8
      rw [← eW, tt_end J hj]
      refine r_bipush (q := 77) (v := (-13)) dL_tents_75 (by decide) rfl ?_
      refine r_icmp_eq (q := 82) (q2 := 80) dL_tents_77 (by decide) rfl (fun _ => ?_) (fun h9 => absurd rfl h9)
      first
        | exact kx _ (k + 6) (n + 36) H8 X8 (by omega) (by omega)
        | (rw [eT, eH, eW]; exact kx _ (k + 6) (n + 36) H8 X8 (by omega) (by omega))
        | (rw [eT, eW]; exact kx _ (k + 6) (n + 36) H8 X8 (by omega) (by omega))
        | (rw [eH, eW]; exact kx _ (k + 6) (n + 36) H8 X8 (by omega) (by omega))
        | (rw [eW]; exact kx _ (k + 6) (n + 36) H8 X8 (by omega) (by omega))
    · refine r_aload_n (q := 52) dL_tents_51 rfl rfl rfl ?_
      refine r_iload_n (q := 53) dL_tents_52 rfl rfl rfl ?_
      refine r_iconst (q := 54) (v := 0) dL_tents_53 rfl rfl ?_
      refine r_callSH (q := 57) (k2 := k + 6) (n2 := n + 36) (As := [_, _, _]) dL_tents_54 s_L_tents_191 rfl rfl (Nat.le_of_ble_eq_true rfl) rfl rfl rfl (show k + 6 ≤ 2000 by omega) (show n + 36 ≤ 60000 by omega) ⟨(show k + 6 ≤ 2000 by omega), (show n + 36 ≤ 60000 by omega)⟩ rfl ?_
      refine la_heaterOf H7 (fun u9 H9 F9 => ?_)
      show WF _ E Po _ _ _ _ _ _ _
      have X9 := X7.tr F9
      rw [← eH, tt_htr J hj (by rw [eH]; exact q2)]
      refine r_iload_n (q := 58) dL_tents_57 rfl rfl rfl ?_
      refine r_icmp_ne (q := 80) (q2 := 61) dL_tents_58 (by decide) rfl (fun h9 => absurd rfl h9) (fun _ => ?_)
      refine r_iload (q := 63) dL_tents_61 rfl rfl ?_
      refine r_bipush (q := 65) (v := 6) dL_tents_63 (by decide) rfl ?_
      refine r_icmp_gt (q := 80) (q2 := 68) dL_tents_65 (by decide) rfl (fun h9 => absurd h9 (fun q => by have := (nI_ltI (a := 6) (by decide) (by omega)).mp q; omega)) (fun _ => ?_)
      refine r_aload_n (q := 69) dL_tents_68 rfl rfl rfl ?_
      refine r_iload_n (q := 70) dL_tents_69 rfl rfl rfl ?_
      refine r_iload (q := 72) dL_tents_70 rfl rfl ?_
      refine r_callSH (q := 75) (k2 := k + 7) (n2 := n + 42) (As := [_, _, _]) dL_tents_72 s_L_tents_205 rfl rfl (Nat.le_of_ble_eq_true rfl) rfl rfl rfl (show k + 7 ≤ 2000 by omega) (show n + 42 ≤ 60000 by omega) ⟨(show k + 7 ≤ 2000 by omega), (show n + 42 ≤ 60000 by omega)⟩ rfl ?_
      refine la_waiting H9 (fun u10 H10 F10 => ?_)
      show WF _ E Po _ _ _ _ _ _ _
      have X10 := X9.tr F10
      rw [← eW, tt_end J hj]
      refine r_bipush (q := 77) (v := (-13)) dL_tents_75 (by decide) rfl ?_
      refine r_icmp_eq (q := 82) (q2 := 80) dL_tents_77 (by decide) rfl (fun _ => ?_) (fun h9 => absurd rfl h9)
      first
        | exact kx _ (k + 7) (n + 42) H10 X10 (by omega) (by omega)
        | (rw [eT, eH, eW]; exact kx _ (k + 7) (n + 42) H10 X10 (by omega) (by omega))
        | (rw [eT, eW]; exact kx _ (k + 7) (n + 42) H10 X10 (by omega) (by omega))
        | (rw [eH, eW]; exact kx _ (k + 7) (n + 42) H10 X10 (by omega) (by omega))
        | (rw [eW]; exact kx _ (k + 7) (n + 42) H10 X10 (by omega) (by omega))
set_option maxRecDepth 100000 in
set_option maxHeartbeats 4000000 in
theorem tt_2 {E : xE} {Po : xPo} {w0 w9 : xW} {x K m j : Nat} {h h9 : xHi} {TB HT : Int32} {W : Nat} (J : J9 K (h.1 0)) (hj : j < n2 (h.1 0)) (G : GQ m (h.1 0)) (hm : m ≤ 1000000) (eT : (h.1 0).2.2.1 j 1 = TB) (eH : (h.1 0).2.2.1 j 2 = HT) (eW : (h.1 0).2.2.1 j 4 = nI W) (hW : W ≤ 6) (kx : ∀ (u : xW) (k n : Nat) (v5 v6 : Int32) (o7 : Option Value), HI E u x h → FX w9 u x h9 h → k ≤ 250 * j + 40 → n ≤ 10000 * j + 240 → WF M_L_tents E Po w0 134 [some (.ref x), some (.int (nI j)), some (.int TB), some (.int HT), some (.int (nI W)), some (.int v5), some (.int v6), o7] [] u k n) : ∀ (z p : Nat) (w : xW) (k n : Nat) (o7 : Option Value) (H : HI E w x h) (X : FX w9 w x h9 h) (hz : p + z = W) (hk : k ≤ 250 * j + 20 + 2 * p) (hn : n ≤ 10000 * j + 120 + 12 * p), WF M_L_tents E Po w0 88 [some (.ref x), some (.int (nI j)), some (.int TB), some (.int HT), some (.int (nI W)), some (.int (lsG (h.1 0) j p)), some (.int (nI p)), o7] [] w k n := by
  intro z
  induction z with
  | zero =>
    intro p w k n o7 H X hz hk hn
    obtain rfl : p = W := by omega
    refine r_iload (q := 90) dL_tents_88 rfl rfl ?_
    refine r_iload (q := 92) dL_tents_90 rfl rfl ?_
    refine r_icmp_ge (q := 134) (q2 := 95) dL_tents_92 (by decide) rfl (fun _ => ?_) (fun h9 => absurd (Int32.le_refl _) h9)
    exact kx _ (k) (n) _ _ _ H X (by omega) (by omega)
  | succ z ih =>
    intro p w k n o7 H X hz hk hn
    have n5 := J.1.2.1.2
    have ew : wt (h.1 0) j = W := by unfold wt; rw [eW, nI_cl (by omega)]
    obtain ⟨cl, us, ca, ba, ⟨a1, a2, a3, a4⟩, ⟨b1, b2, b3⟩, c1, c2, Q, D⟩ := id G
    obtain ⟨g, hg, eg⟩ := Q.1 j (by omega) p (by omega)
    refine r_iload (q := 90) dL_tents_88 rfl rfl ?_
    refine r_iload (q := 92) dL_tents_90 rfl rfl ?_
    refine r_icmp_ge (q := 134) (q2 := 95) dL_tents_92 (by decide) rfl (fun h9 => absurd h9 (nI_ge (show p < W by omega) (by omega))) (fun _ => ?_)
    refine r_aload_n (q := 96) dL_tents_95 rfl rfl rfl ?_
    refine r_iload_n (q := 97) dL_tents_96 rfl rfl rfl ?_
    refine r_iload (q := 99) dL_tents_97 rfl rfl ?_
    refine r_callSH (q := 102) (k2 := k + 1) (n2 := n + 6) (As := [_, _, _]) dL_tents_99 s_L_tents_205 rfl rfl (Nat.le_of_ble_eq_true rfl) rfl rfl rfl (show k + 1 ≤ 2000 by omega) (show n + 6 ≤ 60000 by omega) ⟨(show k + 1 ≤ 2000 by omega), (show n + 6 ≤ 60000 by omega)⟩ rfl ?_
    refine la_waiting H (fun u1 H1 F1 => ?_)
    show WF _ E Po _ _ _ _ _ _ _
    have X1 := X.tr F1
    rw [tt_at J hj (show p < wt (h.1 0) j by omega) eg (by omega)]
    refine r_istore (q := 104) dL_tents_102 (Nat.le_of_ble_eq_true rfl) (xone_of rfl) rfl ?_
    refine r_iload (q := 106) dL_tents_104 rfl rfl ?_
    refine r_iload (q := 108) dL_tents_106 rfl rfl ?_
    refine r_icmp_le (q := 122) (q2 := 111) dL_tents_108 (by decide) rfl (fun h9 => absurd h9 (ls_lt G (by omega) (show p < wt (h.1 0) j by omega) eg (by omega))) (fun _ => ?_)
    refine r_iload (q := 113) dL_tents_111 rfl rfl ?_
    refine r_aload_n (q := 114) dL_tents_113 rfl rfl rfl ?_
    refine r_bipush (q := 116) (v := 10) dL_tents_114 (by decide) rfl ?_
    refine r_callV (q := 119) (ci := 11) (k2 := k + 2) (n2 := n + 12) (As := [_]) dL_tents_116 s_L_tents_184 H1.1.1 rfl rfl rfl (Nat.le_of_ble_eq_true rfl) rfl rfl rfl (show k + 2 ≤ 2000 by omega) (show n + 12 ≤ 60000 by omega) ⟨(show k + 2 ≤ 2000 by omega), (show n + 12 ≤ 60000 by omega)⟩ rfl ?_
    refine la_number H1 J.inC (by decide) (by decide) (by decide) (by decide) ?_
    show WF _ E Po _ _ _ _ _ _ _
    rw [show stToldS (h.1 0) 10 = nI ca from a3]
    refine r_icmp_lt (q := 124) (q2 := 122) dL_tents_119 (by decide) rfl (fun _ => ?_) (fun h9 => absurd (nI_lt (a := g) hg (by omega)) h9)
    refine r_iload (q := 126) dL_tents_124 rfl rfl ?_
    refine r_istore (q := 128) dL_tents_126 (Nat.le_of_ble_eq_true rfl) (xone_of rfl) rfl ?_
    refine r_iinc (q := 131) dL_tents_128 rfl (Nat.le_of_ble_eq_true rfl) (xone_of rfl) rfl ?_
    rw [show nI p + Int32.ofInt 1 = nI (p + 1) from nI_1 p, ← eg]
    refine r_goto (q := 88) dL_tents_131 (by decide) ?_
    exact ih (p + 1) _ (k + 2) (n + 12) _ H1 X1 (by omega) (by omega) (by omega)
set_option maxRecDepth 100000 in
set_option maxHeartbeats 4000000 in
theorem tt_3 {E : xE} {Po : xPo} {w0 w9 w : xW} {x K m j k n : Nat} {h h9 : xHi} {TB HT : Int32} {W : Nat} {v5 v6 : Int32} {o7 : Option Value} (hj : j < 5) (H : HI E w x h) (X : FX w9 w x h9 h) (hk : k ≤ 250 * j + 40) (hn : n ≤ 10000 * j + 240) (kx : ∀ (u : xW) (k n : Nat) (b : Nat) (B : xBd), HI E u x h → FX w9 u x h9 h → BB E w9 u x h b B (digs j ++ [58]) → k ≤ 250 * j + 46 → n ≤ 10000 * j + 540 → WF M_L_tents E Po w0 155 [some (.ref x), some (.int (nI j)), some (.int TB), some (.int HT), some (.int (nI W)), some (.int v5), some (.ref b), o7] [] u k n) : WF M_L_tents E Po w0 134 [some (.ref x), some (.int (nI j)), some (.int TB), some (.int HT), some (.int (nI W)), some (.int v5), some (.int v6), o7] [] w k n := by
  refine r_new (q := 137) dL_tents_134 nw_L_tents_207 (show k + 1 ≤ 2000 by omega) (show n + 4 ≤ 60000 by omega) rfl ?_
  refine r_dup (q := 138) dL_tents_137 rfl rfl ?_
  refine r_callI (q := 141) (k2 := k + 2) (n2 := n + 20) (As := []) dL_tents_138 s_L_tents_209 rfl (Nat.le_of_ble_eq_true rfl) rfl rfl rfl ⟨(show k + 2 ≤ 2000 by omega), (show n + 20 ≤ 60000 by omega)⟩ rfl ?_
  refine nw_init ?_
  show WF _ E Po _ _ _ _ _ _ _
  obtain ⟨Ha, Xa, Ya, -⟩ := bb_new H X
  refine r_astore (q := 143) dL_tents_141 (Nat.le_of_ble_eq_true rfl) (xone_of rfl) rfl ?_
  refine r_aload (q := 145) dL_tents_143 rfl rfl ?_
  refine r_iload_n (q := 146) dL_tents_145 rfl rfl rfl ?_
  refine r_callV (q := 149) (ci := 1) (k2 := k + 3) (n2 := n + 142) (As := [_]) dL_tents_146 s_L_tents_210 Ya.1.1 rfl rfl rfl (Nat.le_of_ble_eq_true rfl) rfl rfl rfl (show k + 3 ≤ 2000 by omega) (show n + 142 ≤ 60000 by omega) ⟨(show k + 3 ≤ 2000 by omega), (show n + 142 ≤ 60000 by omega)⟩ rfl ?_
  refine bl_d (a := j) Ya Ha Xa (by omega) (by have := @digs_len j; show 0 + _ ≤ 60; omega) (fun vb Bb Hb Xb Yb Gb => ?_)
  show WF _ E Po _ _ _ _ _ _ _
  refine r_bipush (q := 151) (v := 58) dL_tents_149 (by decide) rfl ?_
  refine r_callV (q := 154) (ci := 1) (k2 := k + 4) (n2 := n + 264) (As := [_]) dL_tents_151 s_L_tents_214 Yb.1.1 rfl rfl rfl (Nat.le_of_ble_eq_true rfl) rfl rfl rfl (show k + 4 ≤ 2000 by omega) (show n + 264 ≤ 60000 by omega) ⟨(show k + 4 ≤ 2000 by omega), (show n + 264 ≤ 60000 by omega)⟩ rfl ?_
  refine bl_c (y := 58) Yb Hb Xb okc.2.2.2 (by have := @digs_len j; show (digs j).length + 1 ≤ 60; omega) (fun vc Bc Hc Xc Yc Gc => ?_)
  show WF _ E Po _ _ _ _ _ _ _
  refine r_pop (q := 155) dL_tents_154 rfl rfl ?_
  exact kx _ (k + 4) (n + 264) _ _ Hc Xc Yc (by omega) (by omega)
set_option maxRecDepth 100000 in
set_option maxHeartbeats 4000000 in
theorem tt_4 {E : xE} {Po : xPo} {w0 w9 w : xW} {x K m j k n : Nat} {h h9 : xHi} {TB HT : Int32} {W : Nat} {v5 : Int32} {o7 : Option Value} {b : Nat} {B : xBd} {l : List Int32} (J : J9 K (h.1 0)) (hj : j < n2 (h.1 0)) (eT : (h.1 0).2.2.1 j 1 = TB) (eH : (h.1 0).2.2.1 j 2 = HT) (eW : (h.1 0).2.2.1 j 4 = nI W) (hW : W ≤ 6) (H : HI E w x h) (X : FX w9 w x h9 h) (Y : BB E w9 w x h b B l) (hl : l.length ≤ 4) (hk : k ≤ 250 * j + 46) (hn : n ≤ 10000 * j + 540) (kx : ∀ (u : xW) (k n : Nat) (B : xBd), HI E u x h → FX w9 u x h9 h → BB E w9 u x h b B (l ++ tbx (h.1 0) TB) → k ≤ 250 * j + 66 → n ≤ 10000 * j + 2040 → WF M_L_tents E Po w0 270 [some (.ref x), some (.int (nI j)), some (.int TB), some (.int HT), some (.int (nI W)), some (.int v5), some (.ref b), o7] [] u k n) : WF M_L_tents E Po w0 155 [some (.ref x), some (.int (nI j)), some (.int TB), some (.int HT), some (.int (nI W)), some (.int v5), some (.ref b), o7] [] w k n := by
  have n5 := J.1.2.1.2
  have n8 := J.1.1.2
  refine r_iload_n (q := 156) dL_tents_155 rfl rfl rfl ?_
  refine r_if_ge (q := 170) (q2 := 159) dL_tents_156 (by decide) rfl (fun q1 => ?_) (fun q1 => ?_)
  · obtain ⟨t, ht, e1, e2⟩ := tn_tub J hj (by rw [eT]; exact Int32.not_lt.mpr q1)
    rw [eT] at e1
    subst e1
    obtain ⟨L, hL, eL⟩ := (inD_of J).1 t (by omega)
    obtain ⟨T, hT, eC⟩ := (inD_of J).2.1 t (by omega)
    have d1 := @digs_len t
    have d2 := @digs_len L
    have d3 := @digs_len T
    refine r_aload (q := 172) dL_tents_170 rfl rfl ?_
    refine r_bipush (q := 174) (v := 32) dL_tents_172 (by decide) rfl ?_
    refine r_callV (q := 177) (ci := 1) (k2 := k + 1) (n2 := n + 122) (As := [_]) dL_tents_174 s_L_tents_214 Y.1.1 rfl rfl rfl (Nat.le_of_ble_eq_true rfl) rfl rfl rfl (show k + 1 ≤ 2000 by omega) (show n + 122 ≤ 60000 by omega) ⟨(show k + 1 ≤ 2000 by omega), (show n + 122 ≤ 60000 by omega)⟩ rfl ?_
    refine bl_c (y := 32) Y H X okc.1 (by omega) (fun va Ba Ha Xa Ya Ga => ?_)
    show WF _ E Po _ _ _ _ _ _ _
    refine r_iload_n (q := 178) dL_tents_177 rfl rfl rfl ?_
    refine r_callV (q := 181) (ci := 1) (k2 := k + 2) (n2 := n + 244) (As := [_]) dL_tents_178 s_L_tents_210 Ya.1.1 rfl rfl rfl (Nat.le_of_ble_eq_true rfl) rfl rfl rfl (show k + 2 ≤ 2000 by omega) (show n + 244 ≤ 60000 by omega) ⟨(show k + 2 ≤ 2000 by omega), (show n + 244 ≤ 60000 by omega)⟩ rfl ?_
    refine bl_d (a := t) Ya Ha Xa (by omega) (by simp only [List.length_append, List.length_cons, List.length_nil]; omega) (fun vb Bb Hb Xb Yb Gb => ?_)
    show WF _ E Po _ _ _ _ _ _ _
    refine r_bipush (q := 183) (v := 32) dL_tents_181 (by decide) rfl ?_
    refine r_callV (q := 186) (ci := 1) (k2 := k + 3) (n2 := n + 366) (As := [_]) dL_tents_183 s_L_tents_214 Yb.1.1 rfl rfl rfl (Nat.le_of_ble_eq_true rfl) rfl rfl rfl (show k + 3 ≤ 2000 by omega) (show n + 366 ≤ 60000 by omega) ⟨(show k + 3 ≤ 2000 by omega), (show n + 366 ≤ 60000 by omega)⟩ rfl ?_
    refine bl_c (y := 32) Yb Hb Xb okc.1 (by simp only [List.length_append, List.length_cons, List.length_nil]; omega) (fun vc Bc Hc Xc Yc Gc => ?_)
    show WF _ E Po _ _ _ _ _ _ _
    refine r_aload_n (q := 187) dL_tents_186 rfl rfl rfl ?_
    refine r_iload_n (q := 188) dL_tents_187 rfl rfl rfl ?_
    refine r_iconst (q := 189) (v := 3) dL_tents_188 rfl rfl ?_
    refine r_callSH (q := 192) (k2 := k + 4) (n2 := n + 372) (As := [_, _, _]) dL_tents_189 s_L_tents_187 rfl rfl (Nat.le_of_ble_eq_true rfl) rfl rfl rfl (show k + 4 ≤ 2000 by omega) (show n + 372 ≤ 60000 by omega) ⟨(show k + 4 ≤ 2000 by omega), (show n + 372 ≤ 60000 by omega)⟩ rfl ?_
    refine la_tubOf Hc (fun u1 H1 F1 => ?_)
    show WF _ E Po _ _ _ _ _ _ _
    have X1 := Xc.tr F1
    rw [at_3 J ht, eL]
    have Yd := Yc.fx F1
    refine r_callV (q := 195) (ci := 1) (k2 := k + 5) (n2 := n + 494) (As := [_]) dL_tents_192 s_L_tents_210 Yd.1.1 rfl rfl rfl (Nat.le_of_ble_eq_true rfl) rfl rfl rfl (show k + 5 ≤ 2000 by omega) (show n + 494 ≤ 60000 by omega) ⟨(show k + 5 ≤ 2000 by omega), (show n + 494 ≤ 60000 by omega)⟩ rfl ?_
    refine bl_d (a := L) Yd H1 X1 hL (by simp only [List.length_append, List.length_cons, List.length_nil]; omega) (fun ve Be He Xe Ye Ge => ?_)
    show WF _ E Po _ _ _ _ _ _ _
    refine r_bipush (q := 197) (v := 108) dL_tents_195 (by decide) rfl ?_
    refine r_callV (q := 200) (ci := 1) (k2 := k + 6) (n2 := n + 616) (As := [_]) dL_tents_197 s_L_tents_214 Ye.1.1 rfl rfl rfl (Nat.le_of_ble_eq_true rfl) rfl rfl rfl (show k + 6 ≤ 2000 by omega) (show n + 616 ≤ 60000 by omega) ⟨(show k + 6 ≤ 2000 by omega), (show n + 616 ≤ 60000 by omega)⟩ rfl ?_
    refine bl_c (y := 108) Ye He Xe okc.2.1 (by simp only [List.length_append, List.length_cons, List.length_nil]; omega) (fun vf Bf Hf Xf Yf Gf => ?_)
    show WF _ E Po _ _ _ _ _ _ _
    refine r_pop (q := 201) dL_tents_200 rfl rfl ?_
    refine r_aload (q := 203) dL_tents_201 rfl rfl ?_
    refine r_aload_n (q := 204) dL_tents_203 rfl rfl rfl ?_
    refine r_iload_n (q := 205) dL_tents_204 rfl rfl rfl ?_
    refine r_iconst (q := 206) (v := 3) dL_tents_205 rfl rfl ?_
    refine r_callSH (q := 209) (k2 := k + 7) (n2 := n + 622) (As := [_, _, _]) dL_tents_206 s_L_tents_187 rfl rfl (Nat.le_of_ble_eq_true rfl) rfl rfl rfl (show k + 7 ≤ 2000 by omega) (show n + 622 ≤ 60000 by omega) ⟨(show k + 7 ≤ 2000 by omega), (show n + 622 ≤ 60000 by omega)⟩ rfl ?_
    refine la_tubOf Hf (fun u2 H2 F2 => ?_)
    show WF _ E Po _ _ _ _ _ _ _
    have X2 := Xf.tr F2
    rw [at_3 J ht, eL]
    have Yg := Yf.fx F2
    refine r_if_le (q := 264) (q2 := 212) dL_tents_209 (by decide) rfl (fun q2 => ?_) (fun q2 => ?_)
    · refine r_ldcS (i := 30) (q := 266) dL_tents_264 rfl rfl ?_
      refine r_callV (q := 269) (ci := 1) (k2 := k + 8) (n2 := n + 744) (As := [_]) dL_tents_266 s_L_tents_219 Yg.1.1 rfl rfl rfl (Nat.le_of_ble_eq_true rfl) rfl rfl rfl (show k + 8 ≤ 2000 by omega) (show n + 744 ≤ 60000 by omega) ⟨(show k + 8 ≤ 2000 by omega), (show n + 744 ≤ 60000 by omega)⟩ rfl ?_
      refine bl_k (i := 30) Yg H2 X2 (by decide) (by simp only [List.length_append, List.length_cons, List.length_nil, by_l.2.2.2.2.1]; omega) (fun vh Bh Hh Xh Yh Gh => ?_)
      show WF _ E Po _ _ _ _ _ _ _
      have YY := Yh
      rw [tbL_0 (c := h.1 0) eL hL q2, ← tbx_in J ht] at YY
      refine r_pop (q := 270) dL_tents_269 rfl rfl ?_
      exact kx _ (k + 8) (n + 744) _ Hh Xh YY (by omega) (by omega)
    · refine r_new (q := 215) dL_tents_212 nw_L_tents_207 (show k + 7 + 1 ≤ 2000 by omega) (show n + 622 + 4 ≤ 60000 by omega) rfl ?_
      refine r_dup (q := 216) dL_tents_215 rfl rfl ?_
      refine r_callI (q := 219) (k2 := k + 9) (n2 := n + 642) (As := []) dL_tents_216 s_L_tents_209 rfl (Nat.le_of_ble_eq_true rfl) rfl rfl rfl ⟨(show k + 9 ≤ 2000 by omega), (show n + 642 ≤ 60000 by omega)⟩ rfl ?_
      refine nw_init ?_
      show WF _ E Po _ _ _ _ _ _ _
      obtain ⟨Hh, Xh, Yh, -⟩ := bb_new H2 (FX.id (x := x) (h := h))
      have X8 := X2
      refine r_ldcS (i := 28) (q := 221) dL_tents_219 rfl rfl ?_
      refine r_callV (q := 224) (ci := 1) (k2 := k + 10) (n2 := n + 764) (As := [_]) dL_tents_221 s_L_tents_219 Yh.1.1 rfl rfl rfl (Nat.le_of_ble_eq_true rfl) rfl rfl rfl (show k + 10 ≤ 2000 by omega) (show n + 764 ≤ 60000 by omega) ⟨(show k + 10 ≤ 2000 by omega), (show n + 764 ≤ 60000 by omega)⟩ rfl ?_
      refine bl_k (i := 28) Yh Hh Xh (by decide) (by decide +kernel) (fun vi Bi Hi Xi Yi Gi => ?_)
      show WF _ E Po _ _ _ _ _ _ _
      refine r_aload_n (q := 225) dL_tents_224 rfl rfl rfl ?_
      refine r_iload_n (q := 226) dL_tents_225 rfl rfl rfl ?_
      refine r_iconst (q := 227) (v := 4) dL_tents_226 rfl rfl ?_
      refine r_callSH (q := 230) (k2 := k + 11) (n2 := n + 770) (As := [_, _, _]) dL_tents_227 s_L_tents_187 rfl rfl (Nat.le_of_ble_eq_true rfl) rfl rfl rfl (show k + 11 ≤ 2000 by omega) (show n + 770 ≤ 60000 by omega) ⟨(show k + 11 ≤ 2000 by omega), (show n + 770 ≤ 60000 by omega)⟩ rfl ?_
      refine la_tubOf Hi (fun u3 H3 F3 => ?_)
      show WF _ E Po _ _ _ _ _ _ _
      have X3 := Xi.tr F3
      rw [at_4 J ht, show cmS (h.1 0) t = nI T from (if_neg (by rw [eL]; exact q2)).trans eC]
      have Yj := Yi.fx F3
      refine r_callV (q := 233) (ci := 1) (k2 := k + 12) (n2 := n + 892) (As := [_]) dL_tents_230 s_L_tents_210 Yj.1.1 rfl rfl rfl (Nat.le_of_ble_eq_true rfl) rfl rfl rfl (show k + 12 ≤ 2000 by omega) (show n + 892 ≤ 60000 by omega) ⟨(show k + 12 ≤ 2000 by omega), (show n + 892 ≤ 60000 by omega)⟩ rfl ?_
      refine bl_d (a := T) Yj H3 X3 hT (by simp only [List.length_append, List.length_cons, List.length_nil, by_l.2.1, by_l.2.2.1, by_l.2.2.2.1, by_l.2.2.2.2.1]; omega) (fun vk Bk Hk Xk Yk Gk => ?_)
      show WF _ E Po _ _ _ _ _ _ _
      refine r_ldcS (i := 29) (q := 235) dL_tents_233 rfl rfl ?_
      refine r_callV (q := 238) (ci := 1) (k2 := k + 13) (n2 := n + 1014) (As := [_]) dL_tents_235 s_L_tents_219 Yk.1.1 rfl rfl rfl (Nat.le_of_ble_eq_true rfl) rfl rfl rfl (show k + 13 ≤ 2000 by omega) (show n + 1014 ≤ 60000 by omega) ⟨(show k + 13 ≤ 2000 by omega), (show n + 1014 ≤ 60000 by omega)⟩ rfl ?_
      refine bl_k (i := 29) Yk Hk Xk (by decide) (by simp only [List.length_append, List.length_cons, List.length_nil, by_l.2.1, by_l.2.2.1, by_l.2.2.2.1, by_l.2.2.2.2.1]; omega) (fun vl Bl Hl Xl Yl Gl => ?_)
      show WF _ E Po _ _ _ _ _ _ _
      refine r_aload_n (q := 239) dL_tents_238 rfl rfl rfl ?_
      refine r_iload_n (q := 240) dL_tents_239 rfl rfl rfl ?_
      refine r_iconst (q := 241) (v := 5) dL_tents_240 rfl rfl ?_
      refine r_callSH (q := 244) (k2 := k + 14) (n2 := n + 1020) (As := [_, _, _]) dL_tents_241 s_L_tents_187 rfl rfl (Nat.le_of_ble_eq_true rfl) rfl rfl rfl (show k + 14 ≤ 2000 by omega) (show n + 1020 ≤ 60000 by omega) ⟨(show k + 14 ≤ 2000 by omega), (show n + 1020 ≤ 60000 by omega)⟩ rfl ?_
      refine la_tubOf Hl (fun u4 H4 F4 => ?_)
      show WF _ E Po _ _ _ _ _ _ _
      have X4 := Xl.tr F4
      rw [at_5 J ht]
      have Ym := Yl.fx F4
      refine r_iconst (q := 245) (v := 1) dL_tents_244 rfl rfl ?_
      refine r_icmp_ne (q := 253) (q2 := 248) dL_tents_245 (by decide) rfl (fun q5 => ?_) (fun q5 => ?_)
      · refine r_ldcS (i := 30) (q := 255) dL_tents_253 rfl rfl ?_
        refine r_callV (q := 258) (ci := 1) (k2 := k + 15) (n2 := n + 1142) (As := [_]) dL_tents_255 s_L_tents_219 Ym.1.1 rfl rfl rfl (Nat.le_of_ble_eq_true rfl) rfl rfl rfl (show k + 15 ≤ 2000 by omega) (show n + 1142 ≤ 60000 by omega) ⟨(show k + 15 ≤ 2000 by omega), (show n + 1142 ≤ 60000 by omega)⟩ rfl ?_
        refine bl_k (i := 30) Ym H4 X4 (by decide) (by simp only [List.length_append, List.length_cons, List.length_nil, by_l.2.1, by_l.2.2.1, by_l.2.2.2.1, by_l.2.2.2.2.1]; omega) (fun vp Bp Hp Xp Yp Gp => ?_)
        show WF _ E Po _ _ _ _ _ _ _
        refine r_callV (q := 261) (ci := 1) (k2 := k + 17) (n2 := n + 1212) (As := []) dL_tents_258 s_L_tents_230 Yp.1.1 rfl rfl rfl (Nat.le_of_ble_eq_true rfl) rfl rfl rfl (show k + 17 ≤ 2000 by omega) (show n + 1212 ≤ 60000 by omega) ⟨(show k + 17 ≤ 2000 by omega), (show n + 1212 ≤ 60000 by omega)⟩ rfl ?_
        refine bl_t Yp Hp Xp ⟨(by have d9 := d3; simp only [List.length_append, List.length_cons, List.length_nil, by_l.2.1, by_l.2.2.1, by_l.2.2.2.1, by_l.2.2.2.2.1]; omega), (by have d9 := d3; simp only [List.length_append, List.length_cons, List.length_nil, by_l.2.1, by_l.2.2.1, by_l.2.2.2.1, by_l.2.2.2.2.1]; omega)⟩ (fun vn gn Hn Fn Xn Tn => ?_)
        show WF _ E Po _ _ _ _ _ _ _
        have Zn := Yg.fx Xn
        have Wn := X8.tr Xn
        have p1 := Yg.1.2.2.1
        have p2 := Yg.1.2.2.2
        have p3 := Xp.1.1
        refine r_goto (q := 266) dL_tents_261 (by decide) ?_
        refine r_callV (q := 269) (ci := 1) (k2 := k + 18) (n2 := n + 1334) (As := [_]) dL_tents_266 s_L_tents_219 Zn.1.1 rfl rfl rfl (Nat.le_of_ble_eq_true rfl) rfl rfl rfl (show k + 18 ≤ 2000 by omega) (show n + 1334 ≤ 60000 by omega) ⟨(show k + 18 ≤ 2000 by omega), (show n + 1334 ≤ 60000 by omega)⟩ rfl ?_
        refine bl_s Zn Hn Wn Tn ⟨by omega, by omega⟩ ⟨by omega, by omega⟩ (by simp only [List.length_append, List.length_cons, List.length_nil, by_l.2.1, by_l.2.2.1, by_l.2.2.2.1, by_l.2.2.2.2.1]; omega) (fun vo Bo Ho Xo Yo Go => ?_)
        show WF _ E Po _ _ _ _ _ _ _
        have YY := Yo
        first
          | rw [tbL_1 (c := h.1 0) eL hL q2 eC hT q5, ← tbx_in J ht] at YY
          | rw [tbL_2 (c := h.1 0) eL hL q2 eC hT q5, ← tbx_in J ht] at YY
        refine r_pop (q := 270) dL_tents_269 rfl rfl ?_
        exact kx _ (k + 18) (n + 1334) _ Ho Xo YY (by omega) (by omega)
      · refine r_ldcS (i := 27) (q := 250) dL_tents_248 rfl rfl ?_
        refine r_goto (q := 255) dL_tents_250 (by decide) ?_
        refine r_callV (q := 258) (ci := 1) (k2 := k + 15) (n2 := n + 1142) (As := [_]) dL_tents_255 s_L_tents_219 Ym.1.1 rfl rfl rfl (Nat.le_of_ble_eq_true rfl) rfl rfl rfl (show k + 15 ≤ 2000 by omega) (show n + 1142 ≤ 60000 by omega) ⟨(show k + 15 ≤ 2000 by omega), (show n + 1142 ≤ 60000 by omega)⟩ rfl ?_
        refine bl_k (i := 27) Ym H4 X4 (by decide) (by simp only [List.length_append, List.length_cons, List.length_nil, by_l.2.1, by_l.2.2.1, by_l.2.2.2.1, by_l.2.2.2.2.1]; omega) (fun vp Bp Hp Xp Yp Gp => ?_)
        show WF _ E Po _ _ _ _ _ _ _
        refine r_callV (q := 261) (ci := 1) (k2 := k + 17) (n2 := n + 1212) (As := []) dL_tents_258 s_L_tents_230 Yp.1.1 rfl rfl rfl (Nat.le_of_ble_eq_true rfl) rfl rfl rfl (show k + 17 ≤ 2000 by omega) (show n + 1212 ≤ 60000 by omega) ⟨(show k + 17 ≤ 2000 by omega), (show n + 1212 ≤ 60000 by omega)⟩ rfl ?_
        refine bl_t Yp Hp Xp ⟨(by have d9 := d3; simp only [List.length_append, List.length_cons, List.length_nil, by_l.2.1, by_l.2.2.1, by_l.2.2.2.1, by_l.2.2.2.2.1]; omega), (by have d9 := d3; simp only [List.length_append, List.length_cons, List.length_nil, by_l.2.1, by_l.2.2.1, by_l.2.2.2.1, by_l.2.2.2.2.1]; omega)⟩ (fun vn gn Hn Fn Xn Tn => ?_)
        show WF _ E Po _ _ _ _ _ _ _
        have Zn := Yg.fx Xn
        have Wn := X8.tr Xn
        have p1 := Yg.1.2.2.1
        have p2 := Yg.1.2.2.2
        have p3 := Xp.1.1
        refine r_goto (q := 266) dL_tents_261 (by decide) ?_
        refine r_callV (q := 269) (ci := 1) (k2 := k + 18) (n2 := n + 1334) (As := [_]) dL_tents_266 s_L_tents_219 Zn.1.1 rfl rfl rfl (Nat.le_of_ble_eq_true rfl) rfl rfl rfl (show k + 18 ≤ 2000 by omega) (show n + 1334 ≤ 60000 by omega) ⟨(show k + 18 ≤ 2000 by omega), (show n + 1334 ≤ 60000 by omega)⟩ rfl ?_
        refine bl_s Zn Hn Wn Tn ⟨by omega, by omega⟩ ⟨by omega, by omega⟩ (by simp only [List.length_append, List.length_cons, List.length_nil, by_l.2.1, by_l.2.2.1, by_l.2.2.2.1, by_l.2.2.2.2.1]; omega) (fun vo Bo Ho Xo Yo Go => ?_)
        show WF _ E Po _ _ _ _ _ _ _
        have YY := Yo
        first
          | rw [tbL_1 (c := h.1 0) eL hL q2 eC hT q5, ← tbx_in J ht] at YY
          | rw [tbL_2 (c := h.1 0) eL hL q2 eC hT q5, ← tbx_in J ht] at YY
        refine r_pop (q := 270) dL_tents_269 rfl rfl ?_
        exact kx _ (k + 18) (n + 1334) _ Ho Xo YY (by omega) (by omega)
  · refine r_aload (q := 161) dL_tents_159 rfl rfl ?_
    refine r_ldcS (i := 24) (q := 163) dL_tents_161 rfl rfl ?_
    refine r_callV (q := 166) (ci := 1) (k2 := k + 1) (n2 := n + 122) (As := [_]) dL_tents_163 s_L_tents_219 Y.1.1 rfl rfl rfl (Nat.le_of_ble_eq_true rfl) rfl rfl rfl (show k + 1 ≤ 2000 by omega) (show n + 122 ≤ 60000 by omega) ⟨(show k + 1 ≤ 2000 by omega), (show n + 122 ≤ 60000 by omega)⟩ rfl ?_
    refine bl_k (i := 24) Y H X (by decide) (by rw [by_l.1]; omega) (fun va Ba Ha Xa Ya Ga => ?_)
    show WF _ E Po _ _ _ _ _ _ _
    have YY := Ya
    rw [← tbx_no (c := h.1 0) (Int32.not_le.mp q1)] at YY
    refine r_pop (q := 167) dL_tents_166 rfl rfl ?_
    refine r_goto (q := 270) dL_tents_167 (by decide) ?_
    exact kx _ (k + 1) (n + 122) _ Ha Xa YY (by omega) (by omega)
set_option maxRecDepth 100000 in
set_option maxHeartbeats 4000000 in
theorem tt_5 {E : xE} {Po : xPo} {w0 w9 w : xW} {x K m j k n : Nat} {h h9 : xHi} {TB HT : Int32} {W : Nat} {v5 : Int32} {o7 : Option Value} {b : Nat} {B : xBd} {l : List Int32} (J : J9 K (h.1 0)) (hj : j < n2 (h.1 0)) (eT : (h.1 0).2.2.1 j 1 = TB) (eH : (h.1 0).2.2.1 j 2 = HT) (eW : (h.1 0).2.2.1 j 4 = nI W) (hW : W ≤ 6) (H : HI E w x h) (X : FX w9 w x h9 h) (Y : BB E w9 w x h b B l) (hl : l.length ≤ 24) (hk : k ≤ 250 * j + 66) (hn : n ≤ 10000 * j + 2040) (kx : ∀ (u : xW) (k n : Nat) (B : xBd), HI E u x h → FX w9 u x h9 h → BB E w9 u x h b B (l ++ hpx (h.1 0) HT) → k ≤ 250 * j + 76 → n ≤ 10000 * j + 2740 → WF M_L_tents E Po w0 308 [some (.ref x), some (.int (nI j)), some (.int TB), some (.int HT), some (.int (nI W)), some (.int v5), some (.ref b), o7] [.ref b] u k n) : WF M_L_tents E Po w0 270 [some (.ref x), some (.int (nI j)), some (.int TB), some (.int HT), some (.int (nI W)), some (.int v5), some (.ref b), o7] [] w k n := by
  have n5 := J.1.2.1.2
  have n4 := J.1.2.2.2
  refine r_aload (q := 272) dL_tents_270 rfl rfl ?_
  refine r_iload_n (q := 273) dL_tents_272 rfl rfl rfl ?_
  refine r_if_ge (q := 281) (q2 := 276) dL_tents_273 (by decide) rfl (fun q1 => ?_) (fun q1 => ?_)
  · obtain ⟨g, hg, e1, e2⟩ := tn_heater J hj (by rw [eH]; exact Int32.not_lt.mpr q1)
    rw [eH] at e1
    subst e1
    obtain ⟨b9, hb, eb⟩ := (inD_of J).2.2.2 g (by omega)
    have d1 := @digs_len b9
    refine r_new (q := 284) dL_tents_281 nw_L_tents_207 (show k + 1 ≤ 2000 by omega) (show n + 4 ≤ 60000 by omega) rfl ?_
    refine r_dup (q := 285) dL_tents_284 rfl rfl ?_
    refine r_callI (q := 288) (k2 := k + 2) (n2 := n + 20) (As := []) dL_tents_285 s_L_tents_209 rfl (Nat.le_of_ble_eq_true rfl) rfl rfl rfl ⟨(show k + 2 ≤ 2000 by omega), (show n + 20 ≤ 60000 by omega)⟩ rfl ?_
    refine nw_init ?_
    show WF _ E Po _ _ _ _ _ _ _
    obtain ⟨Hh, Xh, Yh, -⟩ := bb_new H (FX.id (x := x) (h := h))
    refine r_ldcS (i := 31) (q := 290) dL_tents_288 rfl rfl ?_
    refine r_callV (q := 293) (ci := 1) (k2 := k + 3) (n2 := n + 142) (As := [_]) dL_tents_290 s_L_tents_219 Yh.1.1 rfl rfl rfl (Nat.le_of_ble_eq_true rfl) rfl rfl rfl (show k + 3 ≤ 2000 by omega) (show n + 142 ≤ 60000 by omega) ⟨(show k + 3 ≤ 2000 by omega), (show n + 142 ≤ 60000 by omega)⟩ rfl ?_
    refine bl_k (i := 31) Yh Hh Xh (by decide) (by decide +kernel) (fun vi Bi Hi Xi Yi Gi => ?_)
    show WF _ E Po _ _ _ _ _ _ _
    refine r_aload_n (q := 294) dL_tents_293 rfl rfl rfl ?_
    refine r_iload_n (q := 295) dL_tents_294 rfl rfl rfl ?_
    refine r_iconst (q := 296) (v := 1) dL_tents_295 rfl rfl ?_
    refine r_callSH (q := 299) (k2 := k + 4) (n2 := n + 148) (As := [_, _, _]) dL_tents_296 s_L_tents_191 rfl rfl (Nat.le_of_ble_eq_true rfl) rfl rfl rfl (show k + 4 ≤ 2000 by omega) (show n + 148 ≤ 60000 by omega) ⟨(show k + 4 ≤ 2000 by omega), (show n + 148 ≤ 60000 by omega)⟩ rfl ?_
    refine la_heaterOf Hi (fun u1 H1 F1 => ?_)
    show WF _ E Po _ _ _ _ _ _ _
    have X1 := Xi.tr F1
    rw [ag_1 J hg, eb]
    have Yj := Yi.fx F1
    refine r_callV (q := 302) (ci := 1) (k2 := k + 5) (n2 := n + 270) (As := [_]) dL_tents_299 s_L_tents_210 Yj.1.1 rfl rfl rfl (Nat.le_of_ble_eq_true rfl) rfl rfl rfl (show k + 5 ≤ 2000 by omega) (show n + 270 ≤ 60000 by omega) ⟨(show k + 5 ≤ 2000 by omega), (show n + 270 ≤ 60000 by omega)⟩ rfl ?_
    refine bl_d (a := b9) Yj H1 X1 hb (by simp only [List.length_append, List.length_nil, by_l.2.2.2.2.2.1]; omega) (fun vk Bk Hk Xk Yk Gk => ?_)
    show WF _ E Po _ _ _ _ _ _ _
    refine r_callV (q := 305) (ci := 1) (k2 := k + 7) (n2 := n + 340) (As := []) dL_tents_302 s_L_tents_230 Yk.1.1 rfl rfl rfl (Nat.le_of_ble_eq_true rfl) rfl rfl rfl (show k + 7 ≤ 2000 by omega) (show n + 340 ≤ 60000 by omega) ⟨(show k + 7 ≤ 2000 by omega), (show n + 340 ≤ 60000 by omega)⟩ rfl ?_
    refine bl_t Yk Hk Xk ⟨(by simp only [List.length_append, List.length_nil, by_l.2.2.2.2.2.1]; omega), (by simp only [List.length_append, List.length_nil, by_l.2.2.2.2.2.1]; omega)⟩ (fun vn gn Hn Fn Xn Tn => ?_)
    show WF _ E Po _ _ _ _ _ _ _
    have Zn := Y.fx Xn
    have Wn := X.tr Xn
    have p1 := Y.1.2.2.1
    have p2 := Y.1.2.2.2
    have p3 := Xk.1.1
    refine r_callV (q := 308) (ci := 1) (k2 := k + 8) (n2 := n + 462) (As := [_]) dL_tents_305 s_L_tents_219 Zn.1.1 rfl rfl rfl (Nat.le_of_ble_eq_true rfl) rfl rfl rfl (show k + 8 ≤ 2000 by omega) (show n + 462 ≤ 60000 by omega) ⟨(show k + 8 ≤ 2000 by omega), (show n + 462 ≤ 60000 by omega)⟩ rfl ?_
    refine bl_s Zn Hn Wn Tn ⟨by omega, by omega⟩ ⟨by omega, by omega⟩ (by simp only [List.length_append, List.length_nil, by_l.2.2.2.2.2.1]; omega) (fun vo Bo Ho Xo Yo Go => ?_)
    show WF _ E Po _ _ _ _ _ _ _
    have YY := Yo
    rw [hpx_1 J hg eb hb] at YY
    exact kx _ (k + 8) (n + 462) _ Ho Xo YY (by omega) (by omega)
  · refine r_ldcS (i := 30) (q := 278) dL_tents_276 rfl rfl ?_
    refine r_goto (q := 305) dL_tents_278 (by decide) ?_
    refine r_callV (q := 308) (ci := 1) (k2 := k + 1) (n2 := n + 122) (As := [_]) dL_tents_305 s_L_tents_219 Y.1.1 rfl rfl rfl (Nat.le_of_ble_eq_true rfl) rfl rfl rfl (show k + 1 ≤ 2000 by omega) (show n + 122 ≤ 60000 by omega) ⟨(show k + 1 ≤ 2000 by omega), (show n + 122 ≤ 60000 by omega)⟩ rfl ?_
    refine bl_k (i := 30) Y H X (by decide) (by rw [by_l.2.2.2.2.1]; omega) (fun vh Bh Hh Xh Yh Gh => ?_)
    show WF _ E Po _ _ _ _ _ _ _
    have YY := Yh
    rw [hpx_0 (c := h.1 0) (Int32.not_le.mp q1)] at YY
    exact kx _ (k + 1) (n + 122) _ Hh Xh YY (by omega) (by omega)
set_option maxRecDepth 100000 in
set_option maxHeartbeats 4000000 in
theorem tt_6 {E : xE} {Po : xPo} {w0 w9 w : xW} {x K m j k n : Nat} {h h9 : xHi} {TB HT : Int32} {W : Nat} {v5 : Int32} {o7 : Option Value} {b : Nat} {B : xBd} {l : List Int32} (hj : j < 5) (hW : W ≤ 6) (H : HI E w x h) (X : FX w9 w x h9 h) (Y : BB E w9 w x h b B l) (hl : l.length ≤ 29) (hk : k ≤ 250 * j + 76) (hn : n ≤ 10000 * j + 2740) (kx : ∀ (u : xW) (k n : Nat) (B : xBd), HI E u x h → FX w9 u x h9 h → BB E w9 u x h b B (l ++ wpx (nI W)) → k ≤ 250 * j + 86 → n ≤ 10000 * j + 3440 → WF M_L_tents E Po w0 342 [some (.ref x), some (.int (nI j)), some (.int TB), some (.int HT), some (.int (nI W)), some (.int v5), some (.ref b), o7] [] u k n) : WF M_L_tents E Po w0 308 [some (.ref x), some (.int (nI j)), some (.int TB), some (.int HT), some (.int (nI W)), some (.int v5), some (.ref b), o7] [.ref b] w k n := by
  refine r_iload (q := 310) dL_tents_308 rfl rfl ?_
  refine r_if_le (q := 336) (q2 := 313) dL_tents_310 (by decide) rfl (fun q1 => ?_) (fun q1 => ?_)
  · refine r_ldcS (i := 30) (q := 338) dL_tents_336 rfl rfl ?_
    refine r_callV (q := 341) (ci := 1) (k2 := k + 1) (n2 := n + 122) (As := [_]) dL_tents_338 s_L_tents_219 Y.1.1 rfl rfl rfl (Nat.le_of_ble_eq_true rfl) rfl rfl rfl (show k + 1 ≤ 2000 by omega) (show n + 122 ≤ 60000 by omega) ⟨(show k + 1 ≤ 2000 by omega), (show n + 122 ≤ 60000 by omega)⟩ rfl ?_
    refine bl_k (i := 30) Y H X (by decide) (by rw [by_l.2.2.2.2.1]; omega) (fun vh Bh Hh Xh Yh Gh => ?_)
    show WF _ E Po _ _ _ _ _ _ _
    have YY := Yh
    rw [wpx_0 q1] at YY
    refine r_pop (q := 342) dL_tents_341 rfl rfl ?_
    exact kx _ (k + 1) (n + 122) _ Hh Xh YY (by omega) (by omega)
  · have d1 := @digs_len W
    refine r_new (q := 316) dL_tents_313 nw_L_tents_207 (show k + 1 ≤ 2000 by omega) (show n + 4 ≤ 60000 by omega) rfl ?_
    refine r_dup (q := 317) dL_tents_316 rfl rfl ?_
    refine r_callI (q := 320) (k2 := k + 2) (n2 := n + 20) (As := []) dL_tents_317 s_L_tents_209 rfl (Nat.le_of_ble_eq_true rfl) rfl rfl rfl ⟨(show k + 2 ≤ 2000 by omega), (show n + 20 ≤ 60000 by omega)⟩ rfl ?_
    refine nw_init ?_
    show WF _ E Po _ _ _ _ _ _ _
    obtain ⟨Hh, Xh, Yh, -⟩ := bb_new H (FX.id (x := x) (h := h))
    refine r_ldcS (i := 32) (q := 322) dL_tents_320 rfl rfl ?_
    refine r_callV (q := 325) (ci := 1) (k2 := k + 3) (n2 := n + 142) (As := [_]) dL_tents_322 s_L_tents_219 Yh.1.1 rfl rfl rfl (Nat.le_of_ble_eq_true rfl) rfl rfl rfl (show k + 3 ≤ 2000 by omega) (show n + 142 ≤ 60000 by omega) ⟨(show k + 3 ≤ 2000 by omega), (show n + 142 ≤ 60000 by omega)⟩ rfl ?_
    refine bl_k (i := 32) Yh Hh Xh (by decide) (by decide +kernel) (fun vi Bi Hi Xi Yi Gi => ?_)
    show WF _ E Po _ _ _ _ _ _ _
    refine r_iload (q := 327) dL_tents_325 rfl rfl ?_
    refine r_callV (q := 330) (ci := 1) (k2 := k + 4) (n2 := n + 264) (As := [_]) dL_tents_327 s_L_tents_210 Yi.1.1 rfl rfl rfl (Nat.le_of_ble_eq_true rfl) rfl rfl rfl (show k + 4 ≤ 2000 by omega) (show n + 264 ≤ 60000 by omega) ⟨(show k + 4 ≤ 2000 by omega), (show n + 264 ≤ 60000 by omega)⟩ rfl ?_
    refine bl_d (a := W) Yi Hi Xi (by omega) (by simp only [List.length_append, List.length_nil, by_l.2.2.2.2.2.2]; omega) (fun vk Bk Hk Xk Yk Gk => ?_)
    show WF _ E Po _ _ _ _ _ _ _
    refine r_callV (q := 333) (ci := 1) (k2 := k + 6) (n2 := n + 334) (As := []) dL_tents_330 s_L_tents_230 Yk.1.1 rfl rfl rfl (Nat.le_of_ble_eq_true rfl) rfl rfl rfl (show k + 6 ≤ 2000 by omega) (show n + 334 ≤ 60000 by omega) ⟨(show k + 6 ≤ 2000 by omega), (show n + 334 ≤ 60000 by omega)⟩ rfl ?_
    refine bl_t Yk Hk Xk ⟨(by simp only [List.length_append, List.length_nil, by_l.2.2.2.2.2.2]; omega), (by simp only [List.length_append, List.length_nil, by_l.2.2.2.2.2.2]; omega)⟩ (fun vn gn Hn Fn Xn Tn => ?_)
    show WF _ E Po _ _ _ _ _ _ _
    have Zn := Y.fx Xn
    have Wn := X.tr Xn
    have p1 := Y.1.2.2.1
    have p2 := Y.1.2.2.2
    have p3 := Xk.1.1
    refine r_goto (q := 338) dL_tents_333 (by decide) ?_
    refine r_callV (q := 341) (ci := 1) (k2 := k + 7) (n2 := n + 456) (As := [_]) dL_tents_338 s_L_tents_219 Zn.1.1 rfl rfl rfl (Nat.le_of_ble_eq_true rfl) rfl rfl rfl (show k + 7 ≤ 2000 by omega) (show n + 456 ≤ 60000 by omega) ⟨(show k + 7 ≤ 2000 by omega), (show n + 456 ≤ 60000 by omega)⟩ rfl ?_
    refine bl_s Zn Hn Wn Tn ⟨by omega, by omega⟩ ⟨by omega, by omega⟩ (by simp only [List.length_append, List.length_nil, by_l.2.2.2.2.2.2]; omega) (fun vo Bo Ho Xo Yo Go => ?_)
    show WF _ E Po _ _ _ _ _ _ _
    have YY := Yo
    rw [wpx_1 q1 (by omega)] at YY
    refine r_pop (q := 342) dL_tents_341 rfl rfl ?_
    exact kx _ (k + 7) (n + 456) _ Ho Xo YY (by omega) (by omega)
set_option maxRecDepth 100000 in
set_option maxHeartbeats 4000000 in
theorem tt_8 {E : xE} {Po : xPo} {w0 w9 w : xW} {x j b : Nat} {h : xHi} {TB HT v5 : Int32} {W : Nat} {B : xBd} {l : List Int32} (hj : j < 5) (hL : hasL h.2.2.2.2 l) (H : HI E w x h) (Y : BB E w9 w x h b B l) (hl : l.length ≤ 40) (kx : ∀ (k n : Nat) (o7 : Option Value), k ≤ 250 * j + 180 → n ≤ 10000 * j + 8000 → WF M_L_tents E Po w0 394 [some (.ref x), some (.int (nI j)), some (.int TB), some (.int HT), some (.int (nI W)), some (.int v5), some (.ref b), o7] [] w k n) : ∀ (z i k n : Nat) (hz : i + z = l.length) (hk : k ≤ 250 * j + 130 + i) (hn : n ≤ 10000 * j + 7450 + 6 * i), WF M_L_tents E Po w0 360 [some (.ref x), some (.int (nI j)), some (.int TB), some (.int HT), some (.int (nI W)), some (.int v5), some (.ref b), some (.int (nI i))] [] w k n := by
  intro z
  induction z with
  | zero =>
    intro i k n hz hk hn
    obtain rfl : i = l.length := by omega
    refine r_iload (q := 362) dL_tents_360 rfl rfl ?_
    refine r_aload (q := 364) dL_tents_362 rfl rfl ?_
    refine r_callV (q := 367) (ci := 1) (k2 := k) (n2 := n) (As := []) dL_tents_364 s_L_tents_241 Y.1.1 rfl rfl rfl (Nat.le_of_ble_eq_true rfl) rfl rfl rfl (show k ≤ 2000 by omega) (show n ≤ 60000 by omega) ⟨(show k ≤ 2000 by omega), (show n ≤ 60000 by omega)⟩ rfl ?_
    refine ct_J4_length_8abf5 (va := B.1) (cap := B.2.1) (ml := B.2.2.1) (ct := B.2.2.2.1) (f := B.2.2.2.2) Y.1 ?_
    show WF _ E Po _ _ _ _ _ _ _
    rw [show B.2.2.2.1 = nI l.length from Y.2.1.1]
    refine r_icmp_ge (q := 394) (q2 := 370) dL_tents_367 (by decide) rfl (fun _ => ?_) (fun h9 => absurd (Int32.le_refl _) h9)
    exact kx (k) (n) _ (by omega) (by omega)
  | succ z ih =>
    intro i k n hz hk hn
    refine r_iload (q := 362) dL_tents_360 rfl rfl ?_
    refine r_aload (q := 364) dL_tents_362 rfl rfl ?_
    refine r_callV (q := 367) (ci := 1) (k2 := k) (n2 := n) (As := []) dL_tents_364 s_L_tents_241 Y.1.1 rfl rfl rfl (Nat.le_of_ble_eq_true rfl) rfl rfl rfl (show k ≤ 2000 by omega) (show n ≤ 60000 by omega) ⟨(show k ≤ 2000 by omega), (show n ≤ 60000 by omega)⟩ rfl ?_
    refine ct_J4_length_8abf5 (va := B.1) (cap := B.2.1) (ml := B.2.2.1) (ct := B.2.2.2.1) (f := B.2.2.2.2) Y.1 ?_
    show WF _ E Po _ _ _ _ _ _ _
    rw [show B.2.2.2.1 = nI l.length from Y.2.1.1]
    refine r_icmp_ge (q := 394) (q2 := 370) dL_tents_367 (by decide) rfl (fun h9 => absurd h9 (nI_ge (show i < l.length by omega) (by omega))) (fun _ => ?_)
    refine r_aload_n (q := 371) dL_tents_370 rfl rfl rfl ?_
    refine r_iload (q := 373) dL_tents_371 rfl rfl ?_
    refine r_callV (q := 376) (ci := 11) (k2 := k + 1) (n2 := n + 6) (As := [_]) dL_tents_373 s_L_tents_242 H.1.1 rfl rfl rfl (Nat.le_of_ble_eq_true rfl) rfl rfl rfl (show k + 1 ≤ 2000 by omega) (show n + 6 ≤ 60000 by omega) ⟨(show k + 1 ≤ 2000 by omega), (show n + 6 ≤ 60000 by omega)⟩ rfl ?_
    refine ct_P9_character H hL ?_
    rw [if_neg (show ¬ (nI i < 0 ∨ ¬ nI i < nI l.length) from fun q => q.elim (nI_pos (by omega)) (fun q => q (nI_lt (show i < l.length by omega) (by omega)))), nI_cl (by omega)]
    show WF _ E Po _ _ _ _ _ _ _
    refine r_aload (q := 378) dL_tents_376 rfl rfl ?_
    refine r_iload (q := 380) dL_tents_378 rfl rfl ?_
    refine r_callV (q := 383) (ci := 1) (k2 := k + 1) (n2 := n + 6) (As := [_]) dL_tents_380 s_L_tents_245 Y.1.1 rfl rfl rfl (Nat.le_of_ble_eq_true rfl) rfl rfl rfl (show k + 1 ≤ 2000 by omega) (show n + 6 ≤ 60000 by omega) ⟨(show k + 1 ≤ 2000 by omega), (show n + 6 ≤ 60000 by omega)⟩ rfl ?_
    refine ct_J4_charAt_5068e (va := B.1) (cap := B.2.1) (ml := B.2.2.1) (ct := B.2.2.2.1) (f := B.2.2.2.2) Y.1 Y.2.1 (show i < l.length by omega) ?_
    show WF _ E Po _ _ _ _ _ _ _
    refine r_icmp_eq (q := 388) (q2 := 386) dL_tents_383 (by decide) rfl (fun _ => ?_) (fun h9 => absurd rfl h9)
    refine r_iinc (q := 391) dL_tents_388 rfl (Nat.le_of_ble_eq_true rfl) (xone_of rfl) rfl ?_
    rw [show nI i + Int32.ofInt 1 = nI (i + 1) from nI_1 i]
    refine r_goto (q := 360) dL_tents_391 (by decide) ?_
    exact ih (i + 1) (k + 1) (n + 6) (by omega) (by omega) (by omega)
set_option maxRecDepth 100000 in
set_option maxHeartbeats 4000000 in
theorem tt_9 {E : xE} {Po : xPo} {w0 w9 w : xW} {x K m j k n : Nat} {h h9 : xHi} {TB HT : Int32} {W : Nat} {v5 : Int32} {b : Nat} {o7 : Option Value} (kx : ∀ (k n : Nat) (o2 o3 o4 o5 o6 o7 : Option Value), k ≤ 250 * (j + 1) → n ≤ 10000 * (j + 1) → WF M_L_tents E Po w0 2 [some (.ref x), some (.int (nI (j + 1))), o2, o3, o4, o5, o6, o7] [] w k n) (hk : k ≤ 250 * j + 180) (hn : n ≤ 10000 * j + 8000) : WF M_L_tents E Po w0 394 [some (.ref x), some (.int (nI j)), some (.int TB), some (.int HT), some (.int (nI W)), some (.int v5), some (.ref b), o7] [] w k n := by
  refine r_iinc (q := 397) dL_tents_394 rfl (Nat.le_of_ble_eq_true rfl) (xone_of rfl) rfl ?_
  rw [show nI j + Int32.ofInt 1 = nI (j + 1) from nI_1 j]
  refine r_goto (q := 2) dL_tents_397 (by decide) ?_
  exact kx (k) (n) _ _ _ _ _ _ (by omega) (by omega)
set_option maxRecDepth 100000 in
set_option maxHeartbeats 4000000 in
theorem tt_7 {E : xE} {Po : xPo} {w0 w9 w : xW} {x K m j k n : Nat} {h h9 : xHi} {TB HT : Int32} {W : Nat} {v5 : Int32} {o7 : Option Value} {b : Nat} {B : xBd} {l0 : List Int32} (J : J9 K (h.1 0)) (hj : j < n2 (h.1 0)) (H : HI E w x h) (X : FX w9 w x h9 h) (hL : hasL h.2.2.2.2 l0) (Y : BB E w9 w x h b B (lineC (h.1 0) j)) (hl : (lineC (h.1 0) j).length ≤ 40) (hk : k ≤ 250 * j + 86) (hn : n ≤ 10000 * j + 3440) (kx : ∀ (u : xW) (h2 : xHi) (k n : Nat) (o2 o3 o4 o5 o6 o7 : Option Value), HI E u x h2 → FX w9 u x h9 h2 → h2.1 = h.1 → h2.2.1 = h.2.1 → (∃ l, hasL h2.2.2.2.2 l) → k ≤ 250 * (j + 1) → n ≤ 10000 * (j + 1) → WF M_L_tents E Po w0 2 [some (.ref x), some (.int (nI (j + 1))), o2, o3, o4, o5, o6, o7] [] u k n) : WF M_L_tents E Po w0 342 [some (.ref x), some (.int (nI j)), some (.int TB), some (.int HT), some (.int (nI W)), some (.int v5), some (.ref b), o7] [] w k n := by
  have n5 := J.1.2.1.2
  refine r_aload_n (q := 343) dL_tents_342 rfl rfl rfl ?_
  refine r_iload_n (q := 344) dL_tents_343 rfl rfl rfl ?_
  refine r_callV (q := 347) (ci := 11) (k2 := k + 40) (n2 := n + 4000) (As := [_]) dL_tents_344 s_L_tents_238 H.1.1 rfl rfl rfl (Nat.le_of_ble_eq_true rfl) rfl rfl rfl (show k + 40 ≤ 2000 by omega) (show n + 4000 ≤ 60000 by omega) ⟨(show k + 40 ≤ 2000 by omega), (show n + 4000 ≤ 60000 by omega)⟩ rfl ?_
  refine ct_P9_line H hL (inD_of J) ?_
  rw [if_pos (okU_in J hj), nI_cl (by omega)]
  intro u1 B1 N1
  have F1 : FX w u1 x h (sbH h B1) := ⟨FB.fr N1.F, N1.F.2.2⟩
  have X1 := X.tr F1
  have Y1 := Y.fx F1
  have H1 := N1.H
  show WF _ E Po _ _ _ _ _ _ _
  refine r_aload (q := 349) dL_tents_347 rfl rfl ?_
  refine r_callV (q := 352) (ci := 1) (k2 := k + 40) (n2 := n + 4000) (As := []) dL_tents_349 s_L_tents_241 Y1.1.1 rfl rfl rfl (Nat.le_of_ble_eq_true rfl) rfl rfl rfl (show k + 40 ≤ 2000 by omega) (show n + 4000 ≤ 60000 by omega) ⟨(show k + 40 ≤ 2000 by omega), (show n + 4000 ≤ 60000 by omega)⟩ rfl ?_
  refine ct_J4_length_8abf5 (va := B.1) (cap := B.2.1) (ml := B.2.2.1) (ct := B.2.2.2.1) (f := B.2.2.2.2) Y1.1 ?_
  show WF _ E Po _ _ _ _ _ _ _
  rw [show B.2.2.2.1 = nI (lineC (h.1 0) j).length from Y1.2.1.1]
  refine r_icmp_eq (q := 357) (q2 := 355) dL_tents_352 (by decide) rfl (fun _ => ?_) (fun h9 => absurd rfl h9)
  refine r_iconst (q := 358) (v := 0) dL_tents_357 rfl rfl ?_
  refine r_istore (q := 360) dL_tents_358 (Nat.le_of_ble_eq_true rfl) (xone_of rfl) rfl ?_
  exact tt_8 (l := lineC (h.1 0) j) (by omega) N1.L H1 Y1 hl (fun k n o7 hk hn => tt_9 (K := K) (m := m) (h := h) (h9 := h9) (w9 := w9) (fun k n o2 o3 o4 o5 o6 o7 hk hn => kx _ (sbH h B1) k n o2 o3 o4 o5 o6 o7 H1 X1 rfl rfl ⟨_, N1.L⟩ hk hn) hk hn) (lineC (h.1 0) j).length 0 (k + 40) (n + 4000) (by omega) (by omega) (by omega)
theorem line_len {K u : Nat} {c : xCo} (J : J9 K c) : (lineC c u).length ≤ 40 := by
  rw [← line_e]
  have d1 := @digs_len u
  have d2 := @tbx_len c (c.2.2.1 u 1)
  have d3 : (hpx c (c.2.2.1 u 2)).length ≤ 5 := by
    have d4 := @digs_len (c.2.2.2 (c.2.2.1 u 2).toNatClampNeg 0).toNatClampNeg
    unfold hpx
    refine ite_len ?_ (Nat.zero_le _)
    simp only [List.length_append, byt_lens.2.2.1]
    omega
  have d5 : (wpx (c.2.2.1 u 4)).length ≤ 5 := by
    have d4 := @digs_len (c.2.2.1 u 4).toNatClampNeg
    unfold wpx
    refine ite_len (Nat.zero_le _) ?_
    simp only [List.length_append, byt_lens.2.2.2]
    omega
  simp only [List.length_append, List.length_cons, List.length_nil]
  omega
set_option maxRecDepth 100000 in
set_option maxHeartbeats 4000000 in
theorem tt_l {E : xE} {Po : xPo} {w0 w9 : xW} {x K m : Nat} {h9 : xHi} (J9x : J9 K (h9.1 0)) (G9 : GQ m (h9.1 0)) (hm : m ≤ 1000000) (hp : ∀ u h2, HI E u x h2 → FX w9 u x h9 h2 → h2.1 = h9.1 → h2.2.1 = h9.2.1 → Po (.inl (some (.int 1))) u) : ∀ (z j : Nat) (w : xW) (h : xHi) (k n : Nat) (o2 o3 o4 o5 o6 o7 : Option Value) (H : HI E w x h) (X : FX w9 w x h9 h) (e1 : h.1 = h9.1) (e2 : h.2.1 = h9.2.1) (L : ∃ l, hasL h.2.2.2.2 l) (hk : k ≤ 250 * j) (hn : n ≤ 10000 * j) (hz : j + z = n2 (h9.1 0)), WF M_L_tents E Po w0 2 [some (.ref x), some (.int (nI j)), o2, o3, o4, o5, o6, o7] [] w k n := by
  intro z
  induction z with
  | zero =>
    intro j w h k n o2 o3 o4 o5 o6 o7 H X e1 e2 L hk hn hz
    have n5 := J9x.1.2.1.2
    have J : J9 K (h.1 0) := by rw [e1]; exact J9x
    obtain rfl : j = n2 (h.1 0) := by rw [e1]; omega
    refine r_iload_n (q := 3) dL_tents_2 rfl rfl rfl ?_
    refine r_aload_n (q := 4) dL_tents_3 rfl rfl rfl ?_
    refine r_iconst (q := 5) (v := 4) dL_tents_4 rfl rfl ?_
    refine r_callV (q := 8) (ci := 11) (k2 := k + 1) (n2 := n + 6) (As := [_]) dL_tents_5 s_L_tents_184 H.1.1 rfl rfl rfl (Nat.le_of_ble_eq_true rfl) rfl rfl rfl (show k + 1 ≤ 2000 by omega) (show n + 6 ≤ 60000 by omega) ⟨(show k + 1 ≤ 2000 by omega), (show n + 6 ≤ 60000 by omega)⟩ rfl ?_
    refine la_number H J.inC (by decide) (by decide) (by decide) (by decide) ?_
    show WF _ E Po _ _ _ _ _ _ _
    rw [show stToldS (h.1 0) 4 = nI (n2 (h.1 0)) from J.1.2.1.1]
    refine r_icmp_ge (q := 400) (q2 := 11) dL_tents_8 (by decide) rfl (fun _ => ?_) (fun h9 => absurd (Int32.le_refl _) h9)
    refine r_iconst (q := 401) (v := 1) dL_tents_400 rfl rfl ?_
    refine r_zret dL_tents_401 rfl (by decide) (show k + 1 ≤ 2000 by omega) (show n + 6 ≤ 60000 by omega) ?_
    exact hp _ _ H X e1 e2
  | succ z ih =>
    intro j w h k n o2 o3 o4 o5 o6 o7 H X e1 e2 L hk hn hz
    have n5 := J9x.1.2.1.2
    have J : J9 K (h.1 0) := by rw [e1]; exact J9x
    have G : GQ m (h.1 0) := by rw [e1]; exact G9
    have hj : j < n2 (h.1 0) := by rw [e1]; omega
    have hj5 : j < 5 := by omega
    obtain ⟨l0, hL⟩ := L
    obtain ⟨w1, w2⟩ := J.wtq (u := j) hj5
    refine tt_1 (m := m) (K := K) J hj rfl rfl w1 w2 H X hk hn (fun w k n H X hk hn => ?_)
    refine r_iconst (q := 83) (v := (-1)) dL_tents_82 rfl rfl ?_
    refine r_istore (q := 85) dL_tents_83 (Nat.le_of_ble_eq_true rfl) (xone_of rfl) rfl ?_
    refine r_iconst (q := 86) (v := 0) dL_tents_85 rfl rfl ?_
    refine r_istore (q := 88) dL_tents_86 (Nat.le_of_ble_eq_true rfl) (xone_of rfl) rfl ?_
    refine tt_2 (m := m) (K := K) J hj G hm rfl rfl w1 w2 (fun w k n v5 v6 o7 H X hk hn => ?_) (wt (h.1 0) j) 0 w k n o7 H X (by omega) hk hn
    refine tt_3 (m := m) (K := K) (TB := (h.1 0).2.2.1 j 1) (HT := (h.1 0).2.2.1 j 2) (W := wt (h.1 0) j) (v5 := v5) (v6 := v6) hj5 H X hk hn (fun w k n b B H X Y hk hn => ?_)
    refine tt_4 (m := m) (K := K) J hj rfl rfl w1 w2 H X Y (by have := @digs_len j; simp only [List.length_append, List.length_cons, List.length_nil]; omega) hk hn (fun w k n B H X Y hk hn => ?_)
    refine tt_5 (m := m) (K := K) J hj rfl rfl w1 w2 H X Y (by have := @digs_len j; have := @tbx_len (h.1 0) ((h.1 0).2.2.1 j 1); simp only [List.length_append, List.length_cons, List.length_nil]; omega) hk hn (fun w k n B H X Y hk hn => ?_)
    refine tt_6 (m := m) (K := K) hj5 w2 H X Y (by
      have d1 := @digs_len j
      have d2 := @tbx_len (h.1 0) ((h.1 0).2.2.1 j 1)
      have d3 : (hpx (h.1 0) ((h.1 0).2.2.1 j 2)).length ≤ 5 := by
        have d4 := @digs_len ((h.1 0).2.2.2 ((h.1 0).2.2.1 j 2).toNatClampNeg 0).toNatClampNeg
        unfold hpx
        refine ite_len ?_ (Nat.zero_le _)
        simp only [List.length_append, byt_lens.2.2.1]
        omega
      simp only [List.length_append, List.length_cons, List.length_nil]; omega) hk hn (fun w k n B H X Y hk hn => ?_)
    rw [← w1, line_e] at Y
    refine tt_7 (m := m) (K := K) J hj H X hL Y (line_len J) hk hn (fun w h2 k n o2 o3 o4 o5 o6 o7 H X f1 f2 L hk hn => ?_)
    exact ih (j + 1) w h2 k n o2 o3 o4 o5 o6 o7 H X (f1.trans e1) (f2.trans e2) L hk hn (by omega)
set_option maxRecDepth 100000 in
set_option maxHeartbeats 4000000 in
theorem ct_L_tents {E : xE} {Po : xPo} {w : xW} {x K m : Nat} {h : xHi} {l : List Int32} (J : J9 K (h.1 0)) (G : GQ m (h.1 0)) (hm : m ≤ 1000000) (hL : hasL h.2.2.2.2 l) (H : HI E w x h) (hp : ∀ u h2, HI E u x h2 → FX w u x h h2 → h2.1 = h.1 → h2.2.1 = h.2.1 → Po (.inl (some (.int 1))) u) : Ct M_L_tents E [.ref x] w Po := by
  refine Ct.of (ws2 := xPv ++ xAll) (L := [some (.ref x), none, none, none, none, none, none, none]) (by decide +kernel) rfl rfl (List.forall_mem_cons.mpr ⟨rfl, fun _ h => absurd h List.not_mem_nil⟩) (Nat.le_of_ble_eq_true rfl) rfl ?_
  refine r_iconst (q := 1) (v := 0) dL_tents_0 rfl rfl ?_
  refine r_istore_n (q := 2) dL_tents_1 rfl (Nat.le_of_ble_eq_true rfl) (xone_of rfl) rfl ?_
  exact tt_l J G hm hp (n2 (h.1 0)) 0 w h 0 0 none none none none none none H FX.id rfl rfl ⟨l, hL⟩ (Nat.zero_le _) (Nat.zero_le _) (by omega)
