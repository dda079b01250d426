/-! ===== 69.read: words that are read (rows laid by wip/p39/gen/make69.py) ===== -/
theorem ok_nar {y : Int32} (h : okB y) : vp_nar .char y = y := by
  unfold vp_nar
  rw [h.2.1]
theorem us_1 (v : Int32) : ∃ n, n < 2147483648 ∧ (v.toUInt32 >>> ((1 : Int32).toUInt32 &&& Int32.toUInt32 31)).toInt32 = nI n := by
  have := v.toBitVec.isLt
  refine ⟨v.toBitVec.toNat / 2 ^ 1, by omega, Int32.toBitVec_inj.mp (BitVec.eq_of_toNat_eq ?_)⟩
  rw [pk_ushr v 1 1 (by decide)]
  show _ = (BitVec.ofNat 32 _).toNat
  rw [BitVec.toNat_ofNat]
  omega
/-- the law's own cell of its input -/
theorem ct_L_cell {E : xE} {Po : xPo} {w : xW} {a i : Nat} (S : a = E.2.2.1) (hN : E.2.2.2.1 < 2147483648) (hi : i < 2147483648) (hp : ∀ v, Po (.inl (some (.int v))) w) : Ct M_L_cell E [.ref a, .int (nI i)] w Po := by
  subst S
  refine Ct.of (ws2 := xAll) (L := [some (.ref E.2.2.1), some (.int (nI i))]) (by decide +kernel) rfl rfl (List.forall_mem_cons.mpr ⟨rfl, List.forall_mem_cons.mpr ⟨rfl, fun _ h => absurd h List.not_mem_nil⟩⟩) (Nat.le_of_ble_eq_true rfl) rfl ?_
  refine r_iload_n (q := 1) dL_cell_0 rfl rfl rfl ?_
  refine r_aload_n (q := 2) dL_cell_1 rfl rfl rfl ?_
  refine r_slen (q := 3) dL_cell_2 rfl ?_
  show WF M_L_cell E Po _ 3 [some (.ref E.2.2.1), some (.int (nI i))] [.int (nI E.2.2.2.1), .int (nI i)] _ _ _
  refine r_icmp_ge (q := 12) (q2 := 6) dL_cell_3 (by decide) rfl (fun h3 => ?_) (fun h3 => ?_)
  · refine r_ldcI (q := 14) dL_cell_12 c_L_cell_7 rfl ?_
    refine r_iload_n (q := 15) dL_cell_14 rfl rfl rfl ?_
    refine r_imul (q := 16) dL_cell_15 rfl ?_
    exact r_iret dL_cell_16 rfl (Nat.le_of_ble_eq_true rfl) (Nat.le_of_ble_eq_true rfl) (hp _)
  · have hin : i < E.2.2.2.1 := Classical.byContradiction fun q => h3 ((nI_leI hN hi).mpr (Nat.le_of_not_lt q))
    refine r_aload_n (q := 7) dL_cell_6 rfl rfl rfl ?_
    refine r_iload_n (q := 8) dL_cell_7 rfl rfl rfl ?_
    refine r_sld (q := 9) dL_cell_8 (vp_in_nI hin hN) rfl ?_
    refine r_goto (q := 16) dL_cell_9 (by decide) ?_
    exact r_iret dL_cell_16 rfl (Nat.le_of_ble_eq_true rfl) (Nat.le_of_ble_eq_true rfl) (hp _)
theorem la_feed {E : xE} {Po : xPo} {w : xW} {x : Nat} {h : xHi} {y : Int32} (hy : vp_nar .char y = y) (H : HI E w x h) (hp : ∀ u h2 r, h2.1 = h.1 → h2.2.1 = h.2.1 → HI E u x h2 → FX w u x h h2 → Po (.inl (some (.int r))) u) : Ct M_L_feed E [.ref x, .int y] w Po := by
  by_cases a0 : h.2.2.1.1 0 < 0
  · exact ct_L_feed 1 0 (fun g => g = h) H (by decide) (fun _ e => by rw [e]) (fun Po q => ct_X9_feed hy H (by rw [if_pos a0]; exact fun u Hu fu => q u _ rfl Hu fu)) (fun u h2 e Hu fu => by subst e; exact hp u _ (-1) (by rfl) (by rfl) Hu fu)
  · by_cases a1 : h.2.2.1.1 0 < 60
    · exact ct_L_feed 0 (h.2.2.1.1 0 + 1) (fun g => g = (h.1, h.2.1, (upd h.2.2.1.1 0 (h.2.2.1.1 0 + 1), h.2.2.1.2.1, upd h.2.2.1.2.2 (h.2.2.1.1 0).toNatClampNeg y), h.2.2.2)) H (by decide) (fun _ e => by rw [e]) (fun Po q => ct_X9_feed hy H (by rw [if_neg a0, if_pos a1]; exact fun u Hu fu => q u _ rfl Hu fu)) (fun u h2 e Hu fu => by subst e; exact hp u _ (h.2.2.1.1 0 + 1) (by rfl) (by rfl) Hu fu)
    · exact ct_L_feed 1 0 (fun g => g = h) H (by decide) (fun _ e => by rw [e]) (fun Po q => ct_X9_feed hy H (by rw [if_neg a0, if_neg a1]; exact fun u Hu fu => q u _ rfl Hu fu)) (fun u h2 e Hu fu => by subst e; exact hp u _ (-1) (by rfl) (by rfl) Hu fu)
/-- a core between two commands of one reading -/
def IJ (K z : Nat) (d : xCo) : Prop := ∃ j, j + z ≤ 60 ∧ J9 (K + 240 * j) d
theorem IJ.up {K z : Nat} {d : xCo} (J : IJ K z d) : J9 (K + 14400) d := by
  obtain ⟨j, hj, Jj⟩ := J
  exact Jj.mono (by omega)
theorem ij_do {K : Nat} (hK : K + 14640 < 16000000) (z : Nat) (d : xCo) (J : IJ K (z + 1) d) : inC d ∧ ∀ m a b, m < 9 → IJ K z (ocS m a b d).2 := by
  obtain ⟨j, hj, Jj⟩ := J
  refine ⟨Jj.inC, fun m a b _ => ?_⟩
  rcases (sim_do R9.rfl9 Jj (by omega) : OK9 (K + 240 * j) d d (ocS m a b d) (mDo d m a b)) with ⟨-, -, -, -, o⟩ | ⟨-, -, a9, b9, -, o, -⟩ | ⟨-, -, o, -⟩ | ⟨-, -, o, -⟩
  · exact ⟨j + 1, by omega, by rw [show K + 240 * (j + 1) = K + 240 * j + 240 by omega]; exact o⟩
  · exact ⟨j, by omega, by rw [o]; exact j_R Jj⟩
  · exact ⟨j, by omega, by rw [o]; exact Jj⟩
  · exact ⟨j, by omega, by rw [o]; exact Jj⟩
theorem coF_J {K : Nat} {f : Nat → Int32} (hK : K + 14640 < 16000000) : ∀ (z k : Nat) (c : Nat → Int32) (m : Nat) (d : xCo), m < 9 → IJ K z d → J9 (K + 14400) (coF f z k c m d).2.2.2
  | 0, k, c, m, d, _, J => J.up
  | z + 1, k, c, m, d, hm, J => by
    have hm2 := rcS_m (f := f) (c := c) hm
    rw [coF]
    generalize rcS f c m = R at hm2
    have J2 := (ij_do hK z d J).2 R.2.2 (R.2.1 2) (R.2.1 3) hm2
    split
    · exact J.up
    · split
      · show J9 _ (if _ then _ else _)
        split
        · exact J2.up
        · exact j_R J2.up
      · exact coF_J hK z (k + 1) _ _ _ hm2 J2
theorem ij_0 {K : Nat} {c : xCo} (J : J9 K c) : IJ K 60 c := ⟨0, by omega, J⟩
theorem lu_reads {E : xE} {Po : xPo} {w : xW} {x K : Nat} {h : xHi} (J : J9 K (h.1 0)) (hK9 : K + 14640 < 16000000) (H : HI E w x h) (hp : ∀ u h2 r, UC (K + 14400) h h2 r → HI E u x h2 → FX w u x h h2 → Po (.inl (some (.int r))) u) : Ct M_L_reads E [.ref x] w Po := by
  obtain ⟨RA, hA⟩ : ∃ RA, ffS h.2.2.1.2.2 h.2.2.1.1 h.2.2.1.2.1 = RA := ⟨_, rfl⟩
  have hm : RA.2.2 < 9 := by rw [← hA]; exact ffS_m H.2.2.1.2.2
  obtain ⟨RB, hB⟩ : ∃ RB, coF h.2.2.1.2.2 60 0 (upd RA.2.1 1 0) RA.2.2 (h.1 0) = RB := ⟨_, rfl⟩
  have JB : J9 (K + 14400) RB.2.2.2 := by rw [← hB]; exact coF_J hK9 _ _ _ _ _ hm (ij_0 J)
  by_cases a0 : RA.1 < 0
  · by_cases b0 : 0 ≤ RB.1
    · exact ct_L_reads 0 RB.1 (fun g => g = hK (rdT h RB)) H (by decide) (fun _ e => by rw [e]; rfl) (fun Po q => ct_X9_read hA hB H (IJ K) (ij_do hK9) (ij_0 J) (by rw [if_pos a0, if_pos b0]; exact fun u Hu fu => q u _ rfl Hu fu)) (fun u h2 e Hu fu => by
        subst e
        refine hp u (hK (rdT h RB)) RB.1 ⟨JB, fun i hi ne => (if_neg (by omega)).trans (hN_o ne), rfl, Or.inr ⟨Int32.not_lt.mpr b0, ?_, rfl⟩⟩ Hu fu
        show EQ9 (h.1 0) (if 3 + h.2.1.1 = 0 then RB.2.2.2 else (hN h).1 (3 + h.2.1.1))
        rw [if_neg (by omega), hN_s]; exact eq_cp)
    · exact ct_L_reads 2 0 (fun g => g = upS (rdT h RB) 0 (cpS RB.2.2.2 ((hN h).1 (3 + h.2.1.1)))) H (by decide) (fun _ e => by rw [e]; rfl) (fun Po q => ct_X9_read hA hB H (IJ K) (ij_do hK9) (ij_0 J) (by rw [if_pos a0, if_neg b0]; exact fun u Hu fu => q u _ rfl Hu fu)) (fun u h2 e Hu fu => by
        subst e
        have e9 : EQ9 (h.1 0) (cpS RB.2.2.2 ((hN h).1 (3 + h.2.1.1))) := by rw [hN_s]; exact eq_cp.tr eq_cp
        exact hp u (upS (rdT h RB) 0 (cpS RB.2.2.2 ((hN h).1 (3 + h.2.1.1)))) (-2) ⟨(J.eq e9).mono (by omega), fun i hi ne => (if_neg (by omega)).trans ((if_neg (by omega)).trans (hN_o ne)), rfl, Or.inl ⟨by decide, e9, rfl⟩⟩ Hu fu)
  · exact ct_L_reads 1 0 (fun g => g = rdX h RA) H (by decide) (fun _ e => by rw [e]; rfl) (fun Po q => ct_X9_read hA hB H (IJ K) (ij_do hK9) (ij_0 J) (by rw [if_neg a0]; exact fun u Hu fu => q u _ rfl Hu fu)) (fun u h2 e Hu fu => by
      subst e
      exact hp u (rdX h RA) (-1) ⟨J.mono (by omega), fun i hi ne => rfl, rfl, Or.inl ⟨by decide, EQ9.rf, rfl⟩⟩ Hu fu)
theorem mem_getD {l : List Int32} {i : Nat} (h : i < l.length) : l.getD i 0 ∈ l := by
  rw [List.getD_eq_getElem?_getD, List.getElem?_eq_getElem h]
  exact List.getElem_mem h
theorem uc_at {K : Nat} {h h3 h4 : xHi} {r : Int32} (e1 : h3.1 = h.1) (e2 : h3.2.1 = h.2.1) (U : UC K h3 h4 r) : UC K h h4 r := by
  obtain ⟨a, b⟩ := h
  obtain ⟨a3, b3, c3⟩ := h3
  obtain ⟨b, c⟩ := b
  obtain rfl : a3 = a := e1
  obtain rfl : b3 = b := e2
  exact U
theorem uc_9 {K : Nat} {h h4 : xHi} (J : J9 K (h.1 0)) (e1 : h4.1 = h.1) (e2 : h4.2.1 = h.2.1) : UC (K + 14400) h h4 (-9) :=
  ⟨by rw [e1]; exact J.mono (by omega), fun i hi ne => by rw [e1], rfl, Or.inl ⟨by decide, by rw [e1]; exact EQ9.rf, e2⟩⟩
set_option maxRecDepth 100000 in
set_option maxHeartbeats 4000000 in
theorem rd_1 {E : xE} {Po : xPo} {w0 w9 : xW} {x K s va : Nat} {h : xHi} {g : Nat → Int32} {l : List Int32} (J : J9 K (h.1 0)) (hK9 : K + 14640 < 16000000) (hl : l.length < 34) (Xl : hasX g l) (hp : ∀ u h2 r, UC (K + 14400) h h2 r → HI E u x h2 → FX w9 u x h h2 → Po (.inl (some (.int r))) u) : ∀ (z i : Nat) (w : xW) (h3 : xHi) (k n : Nat) (e1 : h3.1 = h.1) (e2 : h3.2.1 = h.2.1) (H : HI E w x h3) (X : FX w9 w x h h3) (Os : FO w x h3 s (stE va)) (Ov : FO w x h3 va (.inl (E.1.2 7, l.length, .inl g))) (hz : i + z = l.length) (hk : k ≤ i) (hn : n ≤ 6 * i), WF M_L_read E Po w0 2 [some (.ref x), some (.ref s), some (.int (nI i))] [] w k n := by
  intro z
  induction z with
  | zero =>
    intro i w h3 k n e1 e2 H X Os Ov hz hk hn
    obtain rfl : i = l.length := by omega
    refine r_iload_n (q := 3) dL_read_2 rfl rfl rfl ?_
    refine r_aload_n (q := 4) dL_read_3 rfl rfl rfl ?_
    refine r_callV (q := 7) (ci := 0) (k2 := k) (n2 := n) (As := []) dL_read_4 s_L_read_100 Os.1 rfl rfl rfl (Nat.le_of_ble_eq_true rfl) rfl rfl rfl (show k ≤ 70 by omega) (show n ≤ 420 by omega) ⟨(show k ≤ 70 by omega), (show n ≤ 420 by omega)⟩ rfl ?_
    refine hs_length (va := va) (f := g) (l := l) ⟨Os.1, Ov.1⟩ ?_
    show WF _ E Po _ _ _ _ _ _ _
    refine r_icmp_ge (q := 34) (q2 := 10) dL_read_7 (by decide) rfl (fun _ => ?_) (fun h9 => absurd (Int32.le_refl _) h9)
    refine r_aload_n (q := 35) dL_read_34 rfl rfl rfl ?_
    refine r_callSH (q := 38) (k2 := k + 1) (n2 := n + 6) (As := [_]) dL_read_35 s_L_read_114 rfl rfl (Nat.le_of_ble_eq_true rfl) rfl rfl rfl (show k + 1 ≤ 70 by omega) (show n + 6 ≤ 420 by omega) ⟨(show k + 1 ≤ 70 by omega), (show n + 6 ≤ 420 by omega)⟩ rfl ?_
    refine lu_reads (h := h3) (K := K) (by rw [e1]; exact J) hK9 H (fun u1 h4 r U H1 F1 => ?_)
    show WF _ E Po _ _ _ _ _ _ _
    refine r_iret dL_read_38 rfl (show k + 1 ≤ 70 by omega) (show n + 6 ≤ 420 by omega) ?_
    exact hp _ h4 r (uc_at e1 e2 U) H1 (X.tr F1)
  | succ z ih =>
    intro i w h3 k n e1 e2 H X Os Ov hz hk hn
    refine r_iload_n (q := 3) dL_read_2 rfl rfl rfl ?_
    refine r_aload_n (q := 4) dL_read_3 rfl rfl rfl ?_
    refine r_callV (q := 7) (ci := 0) (k2 := k) (n2 := n) (As := []) dL_read_4 s_L_read_100 Os.1 rfl rfl rfl (Nat.le_of_ble_eq_true rfl) rfl rfl rfl (show k ≤ 70 by omega) (show n ≤ 420 by omega) ⟨(show k ≤ 70 by omega), (show n ≤ 420 by omega)⟩ rfl ?_
    refine hs_length (va := va) (f := g) (l := l) ⟨Os.1, Ov.1⟩ ?_
    show WF _ E Po _ _ _ _ _ _ _
    refine r_icmp_ge (q := 34) (q2 := 10) dL_read_7 (by decide) rfl (fun h9 => absurd h9 (nI_ge (show i < l.length by omega) (by omega))) (fun _ => ?_)
    refine r_aload_n (q := 11) dL_read_10 rfl rfl rfl ?_
    refine r_aload_n (q := 12) dL_read_11 rfl rfl rfl ?_
    refine r_iload_n (q := 13) dL_read_12 rfl rfl rfl ?_
    refine r_callV (q := 16) (ci := 0) (k2 := k) (n2 := n) (As := [_]) dL_read_13 s_L_read_105 Os.1 rfl rfl rfl (Nat.le_of_ble_eq_true rfl) rfl rfl rfl (show k ≤ 70 by omega) (show n ≤ 420 by omega) ⟨(show k ≤ 70 by omega), (show n ≤ 420 by omega)⟩ rfl ?_
    refine hs_charAt (va := va) (f := g) (l := l) ⟨Os.1, Ov.1⟩ Xl (show i < l.length by omega) ?_
    show WF _ E Po _ _ _ _ _ _ _
    refine r_callSH (q := 19) (k2 := k + 1) (n2 := n + 6) (As := [_, _]) dL_read_16 s_L_read_109 rfl rfl (Nat.le_of_ble_eq_true rfl) rfl rfl rfl (show k + 1 ≤ 70 by omega) (show n + 6 ≤ 420 by omega) ⟨(show k + 1 ≤ 70 by omega), (show n + 6 ≤ 420 by omega)⟩ rfl ?_
    refine la_feed (ok_nar (Xl.2.2.1 _ (mem_getD (show i < l.length by omega)))) H (fun u1 h4 r f1 f2 H1 F1 => ?_)
    have X1 := X.tr F1
    have O1 := Os.fx F1
    have O2 := Ov.fx F1
    show WF _ E Po _ _ _ _ _ _ _
    refine r_iload_n (q := 20) dL_read_19 rfl rfl rfl ?_
    refine r_iconst (q := 21) (v := 1) dL_read_20 rfl rfl ?_
    refine r_iadd (q := 22) dL_read_21 rfl ?_
    refine r_icmp_eq (q := 28) (q2 := 25) dL_read_22 (by decide) rfl (fun h22 => ?_) (fun h22 => ?_)
    · refine r_iinc (q := 31) dL_read_28 rfl (Nat.le_of_ble_eq_true rfl) (xone_of rfl) rfl ?_
      rw [show nI i + Int32.ofInt 1 = nI (i + 1) from nI_1 i]
      refine r_goto (q := 2) dL_read_31 (by decide) ?_
      exact ih (i + 1) _ h4 (k + 1) (n + 6) (f1.trans e1) (f2.trans e2) H1 X1 O1 O2 (by omega) (by omega) (by omega)
    · refine r_bipush (q := 27) (v := (-9)) dL_read_25 (by decide) rfl ?_
      refine r_iret dL_read_27 rfl (show k + 1 ≤ 70 by omega) (show n + 6 ≤ 420 by omega) ?_
      exact hp _ h4 (-9) (uc_9 J (f1.trans e1) (f2.trans e2)) H1 X1
set_option maxRecDepth 100000 in
set_option maxHeartbeats 4000000 in
theorem ct_L_read {E : xE} {Po : xPo} {w : xW} {x K s va : Nat} {h : xHi} {g : Nat → Int32} {l : List Int32} (J : J9 K (h.1 0)) (hK9 : K + 14640 < 16000000) (hl : l.length < 34) (Xl : hasX g l) (H : HI E w x h) (Os : FO w x h s (stE va)) (Ov : FO w x h va (.inl (E.1.2 7, l.length, .inl g))) (hp : ∀ u h2 r, UC (K + 14400) h h2 r → HI E u x h2 → FX w u x h h2 → Po (.inl (some (.int r))) u) : Ct M_L_read E [.ref x, .ref s] w Po := by
  refine Ct.of (ws2 := xAll) (L := [some (.ref x), some (.ref s), none]) (by decide +kernel) rfl rfl (List.forall_mem_cons.mpr ⟨rfl, List.forall_mem_cons.mpr ⟨rfl, fun _ h => absurd h List.not_mem_nil⟩⟩) (Nat.le_of_ble_eq_true rfl) rfl ?_
  refine r_iconst (q := 1) (v := 0) dL_read_0 rfl rfl ?_
  refine r_istore_n (q := 2) dL_read_1 rfl (Nat.le_of_ble_eq_true rfl) (xone_of rfl) rfl ?_
  exact rd_1 J hK9 hl Xl hp l.length 0 w h 0 0 rfl rfl H FX.id Os Ov (by omega) (by omega) (by omega)
