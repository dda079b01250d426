/-! ===== 31.feed: feed, heaterOf (rows laid by wip/p39/gen/make31.py) ===== -/
theorem HI.txt {E : xE} {w : xW} {x m : Nat} {c f : Nat → Int32} {h : xHi} (H : HI E w x h) (hm : m < 9) : HI E (tx E (xset w (x + 327 + 1) (sgnE E f)) (x + 327) c m) x (h.1, h.2.1, (c, m, f), h.2.2.2) := by
  obtain ⟨⟨a1, a2, a3, a4⟩, ⟨b1, b2, b3, b4⟩, ⟨c1, c2, c3⟩, d1, d2, d3, d4, d5⟩ := H
  have o : ∀ q, q ≠ x + 327 → q ≠ x + 327 + 1 → (tx E (xset w (x + 327 + 1) (sgnE E f)) (x + 327) c m).1 q = w.1 q := fun q h1 h2 => (xset_o h1).trans (xset_o h2)
  exact ⟨⟨(o _ (by omega) (by omega)).trans a1, (o _ (by omega) (by omega)).trans a2, (o _ (by omega) (by omega)).trans a3, a4⟩, ⟨fun i hi => (o _ (by omega) (by omega)).trans (b1 i hi), fun i hi => (o _ (by omega) (by omega)).trans (b2 i hi), fun i hi => (o _ (by omega) (by omega)).trans (b3 i hi), fun j hj i hi => (o _ (by omega) (by omega)).trans (b4 j hj i hi)⟩, ⟨xset_s, (xset_o (by omega)).trans xset_s, hm⟩, (o _ (by omega) (by omega)).trans d1, (o h.2.2.2.2.1 (by omega) (by omega)).trans d2, d3, d4, d5⟩
set_option maxRecDepth 100000 in
set_option maxHeartbeats 4000000 in
theorem ct_X9_heaterOf {E : xE} {Po : xPo} {w : xW} {x : Nat} {h : xHi} {t y : Int32} (H : HI E w x h) (hp : if okG (h.1 0) t then (if y = 0 then Po (.inl (some (.int ((h.1 0).2.2.2 t.toNatClampNeg 1)))) w else Po (.inl (some (.int ((h.1 0).2.2.2 t.toNatClampNeg 0)))) w) else ∀ u, HI E u x h → Fr w u x h → Po (.inr "java/lang/IndexOutOfBoundsException") u) : Ct M_X9_heaterOf E [.ref x, .int t, .int y] w Po := by
  refine Ct.of (ws2 := xAll) (L := [some (.ref x), some (.int t), some (.int y), none]) (by decide +kernel) rfl rfl (List.forall_mem_cons.mpr ⟨rfl, List.forall_mem_cons.mpr ⟨rfl, List.forall_mem_cons.mpr ⟨rfl, fun _ h => absurd h List.not_mem_nil⟩⟩⟩) (Nat.le_of_ble_eq_true rfl) rfl ?_
  refine r_aload_n (q := 1) dX9_heaterOf_0 rfl rfl rfl ?_
  refine r_getfield (q := 4) dX9_heaterOf_1 f_X9_heaterOf_10 H.1.1 rfl rfl ?_
  refine r_iload_n (q := 5) dX9_heaterOf_4 rfl rfl rfl ?_
  refine r_callV (q := 8) (ci := 7) (As := [_]) dX9_heaterOf_5 s_X9_heaterOf_141 (H.2.1.1 0 (by decide)) rfl rfl rfl (Nat.le_of_ble_eq_true rfl) rfl rfl rfl (Nat.le_of_ble_eq_true rfl) (Nat.le_of_ble_eq_true rfl) ⟨(Nat.le_of_ble_eq_true rfl), (Nat.le_of_ble_eq_true rfl)⟩ rfl ?_
  by_cases ht : okG (h.1 0) t
  · rw [if_pos ht] at hp
    obtain ⟨j, hj, rfl⟩ := ht.ix
    rw [nI_cl (by omega)] at hp
    refine Ct.cw H.2.1.1.eq.symm (ct_X5_heaterAt_in hj ht ?_)
    show WF _ E Po _ _ _ _ _ _ _
    refine WF.cw H.2.1.1.eq ?_
    refine r_astore_n (q := 9) dX9_heaterOf_8 rfl (Nat.le_of_ble_eq_true rfl) (xone_of rfl) rfl ?_
    refine r_aload_n (q := 10) dX9_heaterOf_9 rfl rfl rfl ?_
    refine r_ifnonnull (q := 23) dX9_heaterOf_10 (by decide) ?_
    refine r_iload_n (q := 24) dX9_heaterOf_23 rfl rfl rfl ?_
    refine r_if_eq (q := 34) (q2 := 27) dX9_heaterOf_24 (by decide) rfl (fun h24 => ?_) (fun h24 => ?_)
    · rw [if_pos h24] at hp
      refine r_aload_n (q := 35) dX9_heaterOf_34 rfl rfl rfl ?_
      refine r_getfield (q := 38) dX9_heaterOf_35 f_X9_heaterOf_152 (H.2.1.1.atG hj) (by rfl) rfl ?_
      refine r_iret dX9_heaterOf_38 rfl (Nat.le_of_ble_eq_true rfl) (Nat.le_of_ble_eq_true rfl) ?_
      exact hp
    · rw [if_neg h24] at hp
      refine r_aload_n (q := 28) dX9_heaterOf_27 rfl rfl rfl ?_
      refine r_getfield (q := 31) dX9_heaterOf_28 f_X9_heaterOf_147 (H.2.1.1.atG hj) (by rfl) rfl ?_
      refine r_goto (q := 38) dX9_heaterOf_31 (by decide) ?_
      refine r_iret dX9_heaterOf_38 rfl (Nat.le_of_ble_eq_true rfl) (Nat.le_of_ble_eq_true rfl) ?_
      exact hp
  · rw [if_neg ht] at hp
    refine Ct.cw H.2.1.1.eq.symm (ct_X5_heaterAt_out ht ?_)
    show WF _ E Po _ _ _ _ _ _ _
    refine WF.cw H.2.1.1.eq ?_
    refine r_astore_nN (q := 9) dX9_heaterOf_8 rfl (Nat.le_of_ble_eq_true rfl) (xone_of rfl) rfl ?_
    refine r_aload_nN (q := 10) dX9_heaterOf_9 rfl rfl rfl ?_
    refine r_ifnonnullN (q := 13) dX9_heaterOf_10 rfl ?_
    exact r_throwS (i := 11) (by decide +kernel) th_nm (by decide) (fun _ h => List.mem_cons_of_mem _ h) th_IO tk_IO ti_IO rfl dX9_heaterOf_13 dX9_heaterOf_16 dX9_heaterOf_17 dX9_heaterOf_19 dX9_heaterOf_22 rfl (Nat.le_of_ble_eq_true rfl) (Nat.le_of_ble_eq_true rfl) (Nat.le_of_ble_eq_true rfl) (Nat.le_of_ble_eq_true rfl) (Nat.le_of_ble_eq_true rfl) (Nat.le_of_ble_eq_true rfl) (fun z hz => hp _ (H.sz hz) (Fr.id.sz hz))
set_option maxRecDepth 100000 in
set_option maxHeartbeats 4000000 in
theorem ct_X9_feed {E : xE} {Po : xPo} {w : xW} {x : Nat} {h : xHi} {y : Int32} (hy : vp_nar .char y = y) (H : HI E w x h) (hp : if h.2.2.1.1 0 < 0 then ∀ u, HI E u x h → Fr w u x h → Po (.inr "java/lang/IllegalStateException") u else if h.2.2.1.1 0 < 60 then ∀ u, HI E u x (h.1, h.2.1, (upd h.2.2.1.1 0 (h.2.2.1.1 0 + 1), h.2.2.1.2.1, upd h.2.2.1.2.2 (h.2.2.1.1 0).toNatClampNeg y), h.2.2.2) → Fr w u x h → Po (.inl (some (.int (h.2.2.1.1 0 + 1)))) u else ∀ u, HI E u x h → Fr w u x h → Po (.inr "java/lang/IllegalStateException") u) : Ct M_X9_feed E [.ref x, .int y] w Po := by
  refine Ct.of (ws2 := xAll) (L := [some (.ref x), some (.int y)]) (by decide +kernel) rfl rfl (List.forall_mem_cons.mpr ⟨rfl, List.forall_mem_cons.mpr ⟨rfl, fun _ h => absurd h List.not_mem_nil⟩⟩) (Nat.le_of_ble_eq_true rfl) rfl ?_
  refine r_aload_n (q := 1) dX9_feed_0 rfl rfl rfl ?_
  refine r_getfield (q := 4) dX9_feed_1 f_X9_feed_32 H.1.1 rfl rfl ?_
  refine r_iload_n (q := 5) dX9_feed_4 rfl rfl rfl ?_
  refine r_callV (q := 8) (ci := 9) (As := [_]) dX9_feed_5 s_X9_feed_266 H.2.2.1.1 rfl rfl rfl (Nat.le_of_ble_eq_true rfl) rfl rfl rfl (Nat.le_of_ble_eq_true rfl) (Nat.le_of_ble_eq_true rfl) ⟨(Nat.le_of_ble_eq_true rfl), (Nat.le_of_ble_eq_true rfl)⟩ rfl ?_
  refine Ct.cw (xset_id H.2.2.1.1).symm (ct_X7_takes (w := w) H.2.2.1.2.1 hy ?_)
  rcases Classical.em (h.2.2.1.1 0 < 0) with e0 | e0
  rotate_left
  rcases Classical.em (h.2.2.1.1 0 < 60) with e1 | e1
  · rw [if_neg e0, if_pos e1] at hp ⊢
    show WF _ E Po _ _ _ _ _ _ _
    have H1 := H.txt (c := upd h.2.2.1.1 0 (h.2.2.1.1 0 + 1)) (f := upd h.2.2.1.2.2 (h.2.2.1.1 0).toNatClampNeg y) H.2.2.1.2.2
    refine r_if_ne (q := 22) (q2 := 11) dX9_feed_8 (by decide) rfl (fun _ => ?_) (fun h9 => absurd h9 (by decide))
    refine r_aload_n (q := 23) dX9_feed_22 rfl rfl rfl ?_
    refine r_getfield (q := 26) dX9_feed_23 f_X9_feed_32 H1.1.1 rfl rfl ?_
    refine r_getfield (q := 29) dX9_feed_26 f_X9_feed_235 H1.2.2.1.1 rfl rfl ?_
    refine r_iret dX9_feed_29 rfl (Nat.le_of_ble_eq_true rfl) (Nat.le_of_ble_eq_true rfl) ?_
    exact hp _ H1 ((Fr.id.set (by omega) (by omega)).set (by omega) (by omega))
  · rw [if_neg e0, if_neg e1] at hp ⊢
    show WF _ E Po _ _ _ _ _ _ _
    refine WF.cw (xset_id H.2.2.1.1) ?_
    refine r_if_ne (q := 22) (q2 := 11) dX9_feed_8 (by decide) rfl (fun h9 => absurd rfl h9) (fun _ => ?_)
    exact r_throwSW (i := 21) (by decide +kernel) th_nm (by decide) (fun _ h => List.mem_cons_of_mem _ h) th_IS tk_IS ti_IS rfl dX9_feed_11 dX9_feed_14 dX9_feed_15 dX9_feed_18 dX9_feed_21 rfl (Nat.le_of_ble_eq_true rfl) (Nat.le_of_ble_eq_true rfl) (Nat.le_of_ble_eq_true rfl) (Nat.le_of_ble_eq_true rfl) (Nat.le_of_ble_eq_true rfl) (Nat.le_of_ble_eq_true rfl) (fun z hz => hp _ (H.sz hz) (Fr.id.sz hz))
  · rw [if_pos e0] at hp ⊢
    show WF _ E Po _ _ _ _ _ _ _
    refine WF.cw (xset_id H.2.2.1.1) ?_
    refine r_if_ne (q := 22) (q2 := 11) dX9_feed_8 (by decide) rfl (fun h9 => absurd rfl h9) (fun _ => ?_)
    exact r_throwSW (i := 21) (by decide +kernel) th_nm (by decide) (fun _ h => List.mem_cons_of_mem _ h) th_IS tk_IS ti_IS rfl dX9_feed_11 dX9_feed_14 dX9_feed_15 dX9_feed_18 dX9_feed_21 rfl (Nat.le_of_ble_eq_true rfl) (Nat.le_of_ble_eq_true rfl) (Nat.le_of_ble_eq_true rfl) (Nat.le_of_ble_eq_true rfl) (Nat.le_of_ble_eq_true rfl) (Nat.le_of_ble_eq_true rfl) (fun z hz => hp _ (H.sz hz) (Fr.id.sz hz))
