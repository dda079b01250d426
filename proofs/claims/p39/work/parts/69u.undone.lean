/-! ===== 69u.undone: all is undone (rows laid by wip/p39/gen/make69u.py) ===== -/
set_option maxRecDepth 100000 in
set_option maxHeartbeats 4000000 in
theorem un_s {E : xE} {Po : xPo} {w0 w : xW} {x K a sa d i cc k n : Nat} {h : xHi} {o6 : Option Value} (J : J9 K (h.1 0)) (hK9 : K + 14640 < 16000000) (hcc : cc < 2147483648) (H : HI E w x h) (hk : k ≤ 11000) (hn : n ≤ 80000) (kx : ∀ (u : xW) (h2 : xHi) (r : Int32) (k2 n2 : Nat), UC (K + 14400) h h2 r → HI E u x h2 → FX w u x h h2 → k2 ≤ k + 100 → n2 ≤ n + 1500 → WF M_L_undone E Po w0 486 [some (.ref sa), some (.ref x), some (.ref a), some (.int (nI d)), some (.int (nI i)), some (.int (nI cc)), o6] [.int r] u k2 n2) : WF M_L_undone E Po w0 373 [some (.ref sa), some (.ref x), some (.ref a), some (.int (nI d)), some (.int (nI i)), some (.int (nI cc)), o6] [] w k n := by
  refine r_aload_n (q := 374) dL_undone_373 rfl rfl rfl ?_
  refine r_new (q := 377) dL_undone_374 nw_L_undone_207 (show k + 1 ≤ 12000 by omega) (show n + 4 ≤ 90000 by omega) rfl ?_
  refine r_dup (q := 378) dL_undone_377 rfl rfl ?_
  refine r_callI (q := 381) (k2 := k + 2) (n2 := n + 20) (As := []) dL_undone_378 s_L_undone_209 rfl (Nat.le_of_ble_eq_true rfl) rfl rfl rfl ⟨(show k + 2 ≤ 12000 by omega), (show n + 20 ≤ 90000 by omega)⟩ rfl ?_
  refine nw_init ?_
  show WF _ E Po _ _ _ _ _ _ _
  obtain ⟨H1, X1, Y1, -⟩ := bb_new H (FX.id (w := w) (h := h))
  refine r_ldcSw (i := 33) (q := 384) dL_undone_381 rfl rfl ?_
  refine r_callV (q := 387) (ci := 1) (k2 := k + 3) (n2 := n + 142) (As := [_]) dL_undone_384 s_L_undone_219 Y1.1.1 rfl rfl rfl (Nat.le_of_ble_eq_true rfl) rfl rfl rfl (show k + 3 ≤ 12000 by omega) (show n + 142 ≤ 90000 by omega) ⟨(show k + 3 ≤ 12000 by omega), (show n + 142 ≤ 90000 by omega)⟩ rfl ?_
  refine bl_k (i := 33) Y1 H1 X1 (by decide) (by decide) (fun v2 B2 H2 X2 Y2 G2 => ?_)
  show WF _ E Po _ _ _ _ _ _ _
  obtain ⟨l2, m2, Y2⟩ : ∃ l9 : List Int32, l9.length = 6 ∧ BB E w v2 x h _ B2 l9 := ⟨_, rfl, Y2⟩
  refine r_iconst (q := 388) (v := 1) dL_undone_387 rfl rfl ?_
  refine r_iload (q := 390) dL_undone_388 rfl rfl ?_
  refine r_iconst (q := 391) (v := 4) dL_undone_390 rfl rfl ?_
  refine r_iushr (q := 392) dL_undone_391 rfl ?_
  rw [pk_ushrN (show cc < 2 ^ 32 by omega) 4 4 (by decide)]
  refine r_bipush (q := 394) (v := 9) dL_undone_392 (by decide) rfl ?_
  refine r_irem (q := 395) dL_undone_394 (by decide) rfl ?_
  rw [show nI (cc / 2 ^ 4) - nI (cc / 2 ^ 4) / 9 * 9 = nI (cc / 2 ^ 4 % 9) from pk_rem (d := 9) (by omega) (by decide) (by decide)]
  refine r_iadd (q := 396) dL_undone_395 rfl ?_
  rw [show (1 : Int32) + nI (cc / 2 ^ 4 % 9) = nI (1 + cc / 2 ^ 4 % 9) from nI_add 1 _]
  refine r_callV (q := 399) (ci := 1) (k2 := k + 4) (n2 := n + 264) (As := [_]) dL_undone_396 s_L_undone_210 Y2.1.1 rfl rfl rfl (Nat.le_of_ble_eq_true rfl) rfl rfl rfl (show k + 4 ≤ 12000 by omega) (show n + 264 ≤ 90000 by omega) ⟨(show k + 4 ≤ 12000 by omega), (show n + 264 ≤ 90000 by omega)⟩ rfl ?_
  have d2 := digs_l1 (a := 1 + cc / 2 ^ 4 % 9) (by omega)
  refine bl_d (a := 1 + cc / 2 ^ 4 % 9) Y2 H2 X2 (by omega) (by rw [m2, d2]; decide) (fun v3 B3 H3 X3 Y3 G3 => ?_)
  show WF _ E Po _ _ _ _ _ _ _
  obtain ⟨l3, m3, Y3⟩ : ∃ l9 : List Int32, l9.length = 7 ∧ BB E w v3 x h _ B3 l9 := ⟨_, by rw [List.length_append, m2, d2], Y3⟩
  refine r_ldcSw (i := 34) (q := 402) dL_undone_399 rfl rfl ?_
  refine r_callV (q := 405) (ci := 1) (k2 := k + 5) (n2 := n + 386) (As := [_]) dL_undone_402 s_L_undone_219 Y3.1.1 rfl rfl rfl (Nat.le_of_ble_eq_true rfl) rfl rfl rfl (show k + 5 ≤ 12000 by omega) (show n + 386 ≤ 90000 by omega) ⟨(show k + 5 ≤ 12000 by omega), (show n + 386 ≤ 90000 by omega)⟩ rfl ?_
  refine bl_k (i := 34) Y3 H3 X3 (by decide) (by rw [m3]; decide) (fun v4 B4 H4 X4 Y4 G4 => ?_)
  show WF _ E Po _ _ _ _ _ _ _
  obtain ⟨l4, m4, Y4⟩ : ∃ l9 : List Int32, l9.length = 13 ∧ BB E w v4 x h _ B4 l9 := ⟨_, by rw [List.length_append, m3]; rfl, Y4⟩
  refine r_iload (q := 407) dL_undone_405 rfl rfl ?_
  refine r_bipush (q := 409) (v := 8) dL_undone_407 (by decide) rfl ?_
  refine r_iushr (q := 410) dL_undone_409 rfl ?_
  rw [pk_ushrN (show cc < 2 ^ 32 by omega) 8 8 (by decide)]
  refine r_iconst (q := 411) (v := 4) dL_undone_410 rfl rfl ?_
  refine r_irem (q := 412) dL_undone_411 (by decide) rfl ?_
  rw [show nI (cc / 2 ^ 8) - nI (cc / 2 ^ 8) / 4 * 4 = nI (cc / 2 ^ 8 % 4) from pk_rem (d := 4) (by omega) (by decide) (by decide)]
  refine r_callV (q := 415) (ci := 1) (k2 := k + 6) (n2 := n + 508) (As := [_]) dL_undone_412 s_L_undone_210 Y4.1.1 rfl rfl rfl (Nat.le_of_ble_eq_true rfl) rfl rfl rfl (show k + 6 ≤ 12000 by omega) (show n + 508 ≤ 90000 by omega) ⟨(show k + 6 ≤ 12000 by omega), (show n + 508 ≤ 90000 by omega)⟩ rfl ?_
  have d4 := digs_l1 (a := cc / 2 ^ 8 % 4) (by omega)
  refine bl_d (a := cc / 2 ^ 8 % 4) Y4 H4 X4 (by omega) (by rw [m4, d4]; decide) (fun v5 B5 H5 X5 Y5 G5 => ?_)
  show WF _ E Po _ _ _ _ _ _ _
  obtain ⟨l5, m5, Y5⟩ : ∃ l9 : List Int32, l9.length = 14 ∧ BB E w v5 x h _ B5 l9 := ⟨_, by rw [List.length_append, m4, d4], Y5⟩
  refine r_iload (q := 417) dL_undone_415 rfl rfl ?_
  refine r_iconst (q := 418) (v := 2) dL_undone_417 rfl rfl ?_
  refine r_irem (q := 419) dL_undone_418 (by decide) rfl ?_
  refine r_if_ne (q := 451) (q2 := 422) dL_undone_419 (by decide) rfl (fun h419 => ?_) (fun h419 => ?_)
  · refine r_new (q := 454) dL_undone_451 nw_L_undone_207 (show k + 6 + 1 ≤ 12000 by omega) (show n + 508 + 4 ≤ 90000 by omega) rfl ?_
    refine r_dup (q := 455) dL_undone_454 rfl rfl ?_
    refine r_callI (q := 458) (k2 := k + 8) (n2 := n + 528) (As := []) dL_undone_455 s_L_undone_209 rfl (Nat.le_of_ble_eq_true rfl) rfl rfl rfl ⟨(show k + 8 ≤ 12000 by omega), (show n + 528 ≤ 90000 by omega)⟩ rfl ?_
    refine nw_init ?_
    show WF _ E Po _ _ _ _ _ _ _
    obtain ⟨H6, X6, Y6, -⟩ := bb_new H5 (FX.id (w := v5) (h := h))
    refine r_ldcSw (i := 36) (q := 461) dL_undone_458 rfl rfl ?_
    refine r_callV (q := 464) (ci := 1) (k2 := k + 9) (n2 := n + 650) (As := [_]) dL_undone_461 s_L_undone_219 Y6.1.1 rfl rfl rfl (Nat.le_of_ble_eq_true rfl) rfl rfl rfl (show k + 9 ≤ 12000 by omega) (show n + 650 ≤ 90000 by omega) ⟨(show k + 9 ≤ 12000 by omega), (show n + 650 ≤ 90000 by omega)⟩ rfl ?_
    refine bl_k (i := 36) Y6 H6 X6 (by decide) (by decide) (fun v7 B7 H7 X7 Y7 G7 => ?_)
    show WF _ E Po _ _ _ _ _ _ _
    obtain ⟨l7, m7, Y7⟩ : ∃ l9 : List Int32, l9.length = 13 ∧ BB E v5 v7 x h _ B7 l9 := ⟨_, rfl, Y7⟩
    refine r_iload (q := 466) dL_undone_464 rfl rfl ?_
    refine r_bipush (q := 468) (v := 10) dL_undone_466 (by decide) rfl ?_
    refine r_iushr (q := 469) dL_undone_468 rfl ?_
    rw [pk_ushrN (show cc < 2 ^ 32 by omega) 10 10 (by decide)]
    refine r_iconst (q := 470) (v := 3) dL_undone_469 rfl rfl ?_
    refine r_irem (q := 471) dL_undone_470 (by decide) rfl ?_
    rw [show nI (cc / 2 ^ 10) - nI (cc / 2 ^ 10) / 3 * 3 = nI (cc / 2 ^ 10 % 3) from pk_rem (d := 3) (by omega) (by decide) (by decide)]
    refine r_callV (q := 474) (ci := 1) (k2 := k + 10) (n2 := n + 772) (As := [_]) dL_undone_471 s_L_undone_210 Y7.1.1 rfl rfl rfl (Nat.le_of_ble_eq_true rfl) rfl rfl rfl (show k + 10 ≤ 12000 by omega) (show n + 772 ≤ 90000 by omega) ⟨(show k + 10 ≤ 12000 by omega), (show n + 772 ≤ 90000 by omega)⟩ rfl ?_
    have d7 := digs_l1 (a := cc / 2 ^ 10 % 3) (by omega)
    refine bl_d (a := cc / 2 ^ 10 % 3) Y7 H7 X7 (by omega) (by rw [m7, d7]; decide) (fun v8 B8 H8 X8 Y8 G8 => ?_)
    show WF _ E Po _ _ _ _ _ _ _
    obtain ⟨l8, m8, Y8⟩ : ∃ l9 : List Int32, l9.length = 14 ∧ BB E v5 v8 x h _ B8 l9 := ⟨_, by rw [List.length_append, m7, d7], Y8⟩
    refine r_callV (q := 477) (ci := 1) (k2 := k + 12) (n2 := n + 842) (As := []) dL_undone_474 s_L_undone_230 Y8.1.1 rfl rfl rfl (Nat.le_of_ble_eq_true rfl) rfl rfl rfl (show k + 12 ≤ 12000 by omega) (show n + 842 ≤ 90000 by omega) ⟨(show k + 12 ≤ 12000 by omega), (show n + 842 ≤ 90000 by omega)⟩ rfl ?_
    refine bl_t Y8 H8 X8 (by rw [m8]; decide) (fun v9 g9 H9 F9 X9 T9 => ?_)
    show WF _ E Po _ _ _ _ _ _ _
    have Z9 := Y5.fx X9
    have W9 := X5.tr X9
    have p1 := Y5.1.2.2.1
    have p2 := Y5.1.2.2.2
    have p3 := X8.1.1
    refine r_callV (q := 480) (ci := 1) (k2 := k + 13) (n2 := n + 964) (As := [_]) dL_undone_477 s_L_undone_219 Z9.1.1 rfl rfl rfl (Nat.le_of_ble_eq_true rfl) rfl rfl rfl (show k + 13 ≤ 12000 by omega) (show n + 964 ≤ 90000 by omega) ⟨(show k + 13 ≤ 12000 by omega), (show n + 964 ≤ 90000 by omega)⟩ rfl ?_
    refine bl_s Z9 H9 W9 T9 ⟨by omega, by omega⟩ ⟨by omega, by omega⟩ (by rw [m5, m8]; decide) (fun v10 B10 H10 X10 Y10 G10 => ?_)
    show WF _ E Po _ _ _ _ _ _ _
    refine r_callV (q := 483) (ci := 1) (k2 := k + 15) (n2 := n + 1034) (As := []) dL_undone_480 s_L_undone_230 Y10.1.1 rfl rfl rfl (Nat.le_of_ble_eq_true rfl) rfl rfl rfl (show k + 15 ≤ 12000 by omega) (show n + 1034 ≤ 90000 by omega) ⟨(show k + 15 ≤ 12000 by omega), (show n + 1034 ≤ 90000 by omega)⟩ rfl ?_
    refine bl_t Y10 H10 X10 (by rw [List.length_append, m5, m8]; decide) (fun v11 g11 H11 F11 X11 T11 => ?_)
    show WF _ E Po _ _ _ _ _ _ _
    refine r_callS (q := 486) (k2 := k + 85) (n2 := n + 1454) (As := [_, _]) dL_undone_483 s_L_undone_282 rfl rfl (Nat.le_of_ble_eq_true rfl) rfl rfl rfl (show k + 85 ≤ 12000 by omega) (show n + 1454 ≤ 90000 by omega) ⟨(show k + 85 ≤ 12000 by omega), (show n + 1454 ≤ 90000 by omega)⟩ rfl ?_
    refine ct_L_read J hK9 (by rw [List.length_append, m5, m8]; decide) T11.2.2 H11 T11.1 T11.2.1 (fun u12 h12 r12 U12 H12 F12 => ?_)
    show WF _ E Po _ _ _ _ _ _ _
    exact kx _ h12 r12 (k + 85) (n + 1454) U12 H12 (X11.tr F12) (by omega) (by omega)
  · refine r_new (q := 425) dL_undone_422 nw_L_undone_207 (show k + 6 + 1 ≤ 12000 by omega) (show n + 508 + 4 ≤ 90000 by omega) rfl ?_
    refine r_dup (q := 426) dL_undone_425 rfl rfl ?_
    refine r_callI (q := 429) (k2 := k + 8) (n2 := n + 528) (As := []) dL_undone_426 s_L_undone_209 rfl (Nat.le_of_ble_eq_true rfl) rfl rfl rfl ⟨(show k + 8 ≤ 12000 by omega), (show n + 528 ≤ 90000 by omega)⟩ rfl ?_
    refine nw_init ?_
    show WF _ E Po _ _ _ _ _ _ _
    obtain ⟨H6, X6, Y6, -⟩ := bb_new H5 (FX.id (w := v5) (h := h))
    refine r_ldcSw (i := 35) (q := 432) dL_undone_429 rfl rfl ?_
    refine r_callV (q := 435) (ci := 1) (k2 := k + 9) (n2 := n + 650) (As := [_]) dL_undone_432 s_L_undone_219 Y6.1.1 rfl rfl rfl (Nat.le_of_ble_eq_true rfl) rfl rfl rfl (show k + 9 ≤ 12000 by omega) (show n + 650 ≤ 90000 by omega) ⟨(show k + 9 ≤ 12000 by omega), (show n + 650 ≤ 90000 by omega)⟩ rfl ?_
    refine bl_k (i := 35) Y6 H6 X6 (by decide) (by decide) (fun v7 B7 H7 X7 Y7 G7 => ?_)
    show WF _ E Po _ _ _ _ _ _ _
    obtain ⟨l7, m7, Y7⟩ : ∃ l9 : List Int32, l9.length = 6 ∧ BB E v5 v7 x h _ B7 l9 := ⟨_, rfl, Y7⟩
    refine r_iload (q := 437) dL_undone_435 rfl rfl ?_
    refine r_bipush (q := 439) (v := 10) dL_undone_437 (by decide) rfl ?_
    refine r_iushr (q := 440) dL_undone_439 rfl ?_
    rw [pk_ushrN (show cc < 2 ^ 32 by omega) 10 10 (by decide)]
    refine r_iconst (q := 441) (v := 4) dL_undone_440 rfl rfl ?_
    refine r_irem (q := 442) dL_undone_441 (by decide) rfl ?_
    rw [show nI (cc / 2 ^ 10) - nI (cc / 2 ^ 10) / 4 * 4 = nI (cc / 2 ^ 10 % 4) from pk_rem (d := 4) (by omega) (by decide) (by decide)]
    refine r_callV (q := 445) (ci := 1) (k2 := k + 10) (n2 := n + 772) (As := [_]) dL_undone_442 s_L_undone_210 Y7.1.1 rfl rfl rfl (Nat.le_of_ble_eq_true rfl) rfl rfl rfl (show k + 10 ≤ 12000 by omega) (show n + 772 ≤ 90000 by omega) ⟨(show k + 10 ≤ 12000 by omega), (show n + 772 ≤ 90000 by omega)⟩ rfl ?_
    have d7 := digs_l1 (a := cc / 2 ^ 10 % 4) (by omega)
    refine bl_d (a := cc / 2 ^ 10 % 4) Y7 H7 X7 (by omega) (by rw [m7, d7]; decide) (fun v8 B8 H8 X8 Y8 G8 => ?_)
    show WF _ E Po _ _ _ _ _ _ _
    obtain ⟨l8, m8, Y8⟩ : ∃ l9 : List Int32, l9.length = 7 ∧ BB E v5 v8 x h _ B8 l9 := ⟨_, by rw [List.length_append, m7, d7], Y8⟩
    refine r_callV (q := 448) (ci := 1) (k2 := k + 12) (n2 := n + 842) (As := []) dL_undone_445 s_L_undone_230 Y8.1.1 rfl rfl rfl (Nat.le_of_ble_eq_true rfl) rfl rfl rfl (show k + 12 ≤ 12000 by omega) (show n + 842 ≤ 90000 by omega) ⟨(show k + 12 ≤ 12000 by omega), (show n + 842 ≤ 90000 by omega)⟩ rfl ?_
    refine bl_t Y8 H8 X8 (by rw [m8]; decide) (fun v9 g9 H9 F9 X9 T9 => ?_)
    show WF _ E Po _ _ _ _ _ _ _
    have Z9 := Y5.fx X9
    have W9 := X5.tr X9
    have p1 := Y5.1.2.2.1
    have p2 := Y5.1.2.2.2
    have p3 := X8.1.1
    refine r_goto (q := 477) dL_undone_448 (by decide) ?_
    refine r_callV (q := 480) (ci := 1) (k2 := k + 13) (n2 := n + 964) (As := [_]) dL_undone_477 s_L_undone_219 Z9.1.1 rfl rfl rfl (Nat.le_of_ble_eq_true rfl) rfl rfl rfl (show k + 13 ≤ 12000 by omega) (show n + 964 ≤ 90000 by omega) ⟨(show k + 13 ≤ 12000 by omega), (show n + 964 ≤ 90000 by omega)⟩ rfl ?_
    refine bl_s Z9 H9 W9 T9 ⟨by omega, by omega⟩ ⟨by omega, by omega⟩ (by rw [m5, m8]; decide) (fun v10 B10 H10 X10 Y10 G10 => ?_)
    show WF _ E Po _ _ _ _ _ _ _
    refine r_callV (q := 483) (ci := 1) (k2 := k + 15) (n2 := n + 1034) (As := []) dL_undone_480 s_L_undone_230 Y10.1.1 rfl rfl rfl (Nat.le_of_ble_eq_true rfl) rfl rfl rfl (show k + 15 ≤ 12000 by omega) (show n + 1034 ≤ 90000 by omega) ⟨(show k + 15 ≤ 12000 by omega), (show n + 1034 ≤ 90000 by omega)⟩ rfl ?_
    refine bl_t Y10 H10 X10 (by rw [List.length_append, m5, m8]; decide) (fun v11 g11 H11 F11 X11 T11 => ?_)
    show WF _ E Po _ _ _ _ _ _ _
    refine r_callS (q := 486) (k2 := k + 85) (n2 := n + 1454) (As := [_, _]) dL_undone_483 s_L_undone_282 rfl rfl (Nat.le_of_ble_eq_true rfl) rfl rfl rfl (show k + 85 ≤ 12000 by omega) (show n + 1454 ≤ 90000 by omega) ⟨(show k + 85 ≤ 12000 by omega), (show n + 1454 ≤ 90000 by omega)⟩ rfl ?_
    refine ct_L_read J hK9 (by rw [List.length_append, m5, m8]; decide) T11.2.2 H11 T11.1 T11.2.1 (fun u12 h12 r12 U12 H12 F12 => ?_)
    show WF _ E Po _ _ _ _ _ _ _
    exact kx _ h12 r12 (k + 85) (n + 1454) U12 H12 (X11.tr F12) (by omega) (by omega)
theorem UC.mono {K K2 : Nat} {h h2 : xHi} {r : Int32} (U : UC K h h2 r) (q : K ≤ K2) : UC K2 h h2 r := ⟨U.1.mono q, U.2⟩
theorem FO.put2 {u : xW} {x a b : Nat} {h : xHi} {e e2 : va_E} (O : FO u x h b e) (ne : b ≠ a) : FO (xset u a e2) x h b e := ⟨(xset_o ne).trans O.1, O.2⟩
/-- what was, and how it is kept: the last d changes can be undone -/
def UR (K d : Nat) (h : xHi) (cs : Nat → xCo) : Prop := ∃ n, n ≤ 8 ∧ d ≤ n ∧ h.2.1.2 = nI n ∧ ∀ j, j < d → J9 K (cs j) ∧ EQ9 (cs j) (h.1 (3 + (h.2.1.1 + 9 - d + j) % 9))
def csU (cs : Nat → xCo) (d : Nat) (c : xCo) : Nat → xCo := fun j => if j = d then c else cs j
theorem UR.mono {K K2 d : Nat} {h : xHi} {cs : Nat → xCo} (R : UR K d h cs) (q : K ≤ K2) : UR K2 d h cs := by
  obtain ⟨n, a, b, c, e⟩ := R
  exact ⟨n, a, b, c, fun j hj => ⟨(e j hj).1.mono q, (e j hj).2⟩⟩
theorem ur_no {K K2 d : Nat} {h h2 : xHi} {cs : Nat → xCo} {r : Int32} (R : UR K d h cs) (hx : h.2.1.1 < 9) (hd : d < 8) (U : UC K2 h h2 r) (hr : r < 0) : UR K d h2 cs ∧ EQ9 (h.1 0) (h2.1 0) := by
  obtain ⟨n, a, b, c, e⟩ := R
  obtain ⟨-, u2, -, u⟩ := U
  rcases u with ⟨-, u3, u4⟩ | ⟨u3, -⟩
  · refine ⟨⟨n, a, b, by rw [u4]; exact c, fun j hj => ⟨(e j hj).1, ?_⟩⟩, u3⟩
    rw [u4, u2 _ (by omega) (by omega)]
    exact (e j hj).2
  · exact absurd hr u3
theorem ur_ok {K K2 d : Nat} {h h2 : xHi} {cs : Nat → xCo} {r : Int32} (R : UR K d h cs) (J : J9 K (h.1 0)) (hx : h.2.1.1 < 9) (hd : d < 7) (U : UC K2 h h2 r) (hr : ¬ r < 0) : UR K (d + 1) h2 (csU cs d (h.1 0)) := by
  obtain ⟨n, a, b, c, e⟩ := R
  obtain ⟨-, u2, -, u⟩ := U
  rcases u with ⟨u3, -⟩ | ⟨-, u3, u4⟩
  · exact absurd u3 hr
  · obtain ⟨m, hm, em, hm2⟩ : ∃ m, m ≤ 8 ∧ h2.2.1.2 = nI m ∧ d + 1 ≤ m := by
      have e2 : h2.2.1.2 = if h.2.1.2 + 1 < 8 then h.2.1.2 + 1 else 8 := by rw [u4]; rfl
      rw [e2, c, nI_1]
      by_cases q : n + 1 < 8
      · rw [if_pos (show nI (n + 1) < 8 from nI_lt (b := 8) q (by decide))]
        exact ⟨n + 1, by omega, rfl, by omega⟩
      · rw [if_neg (show ¬ nI (n + 1) < 8 from fun z => q ((nI_ltI (b := 8) (by omega) (by decide)).mp z))]
        exact ⟨8, by omega, rfl, by omega⟩
    have ex : h2.2.1.1 = (h.2.1.1 + 1) % 9 := by rw [u4]; rfl
    refine ⟨m, hm, hm2, em, fun j hj => ?_⟩
    rw [ex]
    by_cases q : j = d
    · subst q
      rw [show csU cs j (h.1 0) j = h.1 0 from if_pos rfl, show ((h.2.1.1 + 1) % 9 + 9 - (j + 1) + j) % 9 = h.2.1.1 by omega]
      exact ⟨J, u3⟩
    · rw [show csU cs d (h.1 0) j = cs j from if_neg q, show ((h.2.1.1 + 1) % 9 + 9 - (d + 1) + j) % 9 = (h.2.1.1 + 9 - d + j) % 9 by omega, u2 _ (by omega) (by omega)]
      exact e j (by omega)
theorem sl_s {F : Nat → Int64} {d : Nat} {v : Int64} : vp_updL F d v d = v := if_pos rfl
theorem sl_o {F : Nat → Int64} {d j : Nat} {v : Int64} (q : j ≠ d) : vp_updL F d v j = F j := if_neg q
theorem ur_un {K d : Nat} {h : xHi} {cs : Nat → xCo} (R : UR K (d + 1) h cs) (hx : h.2.1.1 < 9) (hd : d < 8) : ∃ n, n + 1 ≤ 8 ∧ h.2.1.2 = nI (n + 1) ∧ J9 K (cs d) ∧ EQ9 (cs d) (cpS (h.1 0) (h.1 (3 + (h.2.1.1 + 8) % 9))) ∧ UR K d (upS (h.1, ((h.2.1.1 + 8) % 9, nI n), h.2.2) 0 (cpS (h.1 0) (h.1 (3 + (h.2.1.1 + 8) % 9)))) cs := by
  obtain ⟨n, a, b, c, e⟩ := R
  obtain ⟨m, rfl⟩ : ∃ m, n = m + 1 := ⟨n - 1, by omega⟩
  have e1 := e d (by omega)
  rw [show (h.2.1.1 + 9 - (d + 1) + d) % 9 = (h.2.1.1 + 8) % 9 by omega] at e1
  refine ⟨m, a, c, e1.1, e1.2.tr eq_cp, m, by omega, by omega, rfl, fun j hj => ?_⟩
  have e2 := e j (by omega)
  refine ⟨e2.1, ?_⟩
  show EQ9 (cs j) (if 3 + ((h.2.1.1 + 8) % 9 + 9 - d + j) % 9 = 0 then _ else h.1 (3 + ((h.2.1.1 + 8) % 9 + 9 - d + j) % 9))
  rw [if_neg (by omega), show ((h.2.1.1 + 8) % 9 + 9 - d + j) % 9 = (h.2.1.1 + 9 - (d + 1) + j) % 9 by omega]
  exact e2.2
set_option maxRecDepth 100000 in
set_option maxHeartbeats 4000000 in
theorem un_u {E : xE} {Po : xPo} {w0 : xW} {x K a sa : Nat} (hK9 : K + 16000 < 16000000) {v3 : Int32} {cs : Nat → xCo} {F : Nat → Int64} (hp : ∀ u : xW, Po (.inl (some (.int 1))) u) : ∀ (z : Nat) (w : xW) (h : xHi) (k n : Nat) (o5 o6 : Option Value) (hz : z ≤ 7) (R : UR K z h cs) (hF : ∀ j, j < z → F j = shS (cs j)) (H : HI E w x h) (O : FO w x h a (.inl (E.1.2 8, 9, .inr (.inl F)))) (hk : k + 310 * z ≤ 11000) (hn : n + 2100 * z ≤ 80000), WF M_L_undone E Po w0 530 [some (.ref sa), some (.ref x), some (.ref a), some (.int v3), some (.int (nI z - 1)), o5, o6] [] w k n := by
  intro z
  induction z with
  | zero =>
    intro w h k n o5 o6 hz R hF H O hk hn
    refine r_iload (q := 532) dL_undone_530 rfl rfl ?_
    refine r_if_lt (q := 562) (q2 := 535) dL_undone_532 (by decide) rfl (fun _ => ?_) (fun h9 => absurd (show nI 0 - 1 < 0 by decide) h9)
    refine r_iconst (q := 563) (v := 1) dL_undone_562 rfl rfl ?_
    refine r_zret dL_undone_563 rfl (by decide) (show k ≤ 12000 by omega) (show n ≤ 90000 by omega) ?_
    exact hp _
  | succ z ih =>
    intro w h k n o5 o6 hz R hF H O hk hn
    obtain ⟨m, hn1, en, J2, E3, R2⟩ := ur_un R H.1.2.2.2 (by omega)
    rw [show nI (z + 1) - 1 = nI z from nI_pred z]
    refine r_iload (q := 532) dL_undone_530 rfl rfl ?_
    refine r_if_lt (q := 562) (q2 := 535) dL_undone_532 (by decide) rfl (fun h9 => absurd h9 (nI_pos (by omega))) (fun _ => ?_)
    refine r_aload_n (q := 536) dL_undone_535 rfl rfl rfl ?_
    refine r_callSH (q := 539) (k2 := k + 1) (n2 := n + 6) (As := [_]) dL_undone_536 s_L_undone_256 rfl rfl (Nat.le_of_ble_eq_true rfl) rfl rfl rfl (show k + 1 ≤ 12000 by omega) (show n + 6 ≤ 90000 by omega) ⟨(show k + 1 ≤ 12000 by omega), (show n + 6 ≤ 90000 by omega)⟩ rfl ?_
    refine la_undo H hn1 en (fun u1 H1 F1 => ?_)
    have O1 := O.fx F1
    show WF _ E Po _ _ _ _ _ _ _
    refine r_if_lt (q := 554) (q2 := 542) dL_undone_539 (by decide) rfl (fun h9 => absurd h9 (nI_pos (by omega))) (fun _ => ?_)
    refine r_aload_n (q := 543) dL_undone_542 rfl rfl rfl ?_
    refine r_callS (q := 546) (k2 := k + 301) (n2 := n + 2006) (As := [_]) dL_undone_543 s_L_undone_270 rfl rfl (Nat.le_of_ble_eq_true rfl) rfl rfl rfl (show k + 301 ≤ 12000 by omega) (show n + 2006 ≤ 90000 by omega) ⟨(show k + 301 ≤ 12000 by omega), (show n + 2006 ≤ 90000 by omega)⟩ rfl ?_
    have J3 : J9 K ((upS (h.1, ((h.2.1.1 + 8) % 9, nI m), h.2.2) 0 (cpS (h.1 0) (h.1 (3 + (h.2.1.1 + 8) % 9)))).1 0) := J2.eq E3
    refine ct_L_sum J3 H1 (fun u2 H2 F2 => ?_)
    have O2 := O1.fx F2
    show WF _ E Po _ _ _ _ _ _ _
    refine r_aload_n (q := 547) dL_undone_546 rfl rfl rfl ?_
    refine r_iload (q := 549) dL_undone_547 rfl rfl ?_
    refine r_laload (q := 550) dL_undone_549 O2.1 (vp_in_nI (show z < 9 by omega) (by decide)) rfl ?_
    rw [nI_cl (by omega), hF z (by omega), show shS ((upS (h.1, ((h.2.1.1 + 8) % 9, nI m), h.2.2) 0 (cpS (h.1 0) (h.1 (3 + (h.2.1.1 + 8) % 9)))).1 0) = shS (cs z) from eq_sh J2 E3]
    refine r_lcmp (q := 551) dL_undone_550 rfl ?_
    rw [lcmp_s]
    refine r_if_eq (q := 556) (q2 := 554) dL_undone_551 (by decide) rfl (fun _ => ?_) (fun h9 => absurd rfl h9)
    refine r_iinc (q := 559) dL_undone_556 rfl (Nat.le_of_ble_eq_true rfl) (xone_of rfl) rfl ?_
    rw [i32_m1]
    refine r_goto (q := 530) dL_undone_559 (by decide) ?_
    exact ih _ _ (k + 301) (n + 2006) _ _ (by omega) R2 (fun j hj => hF j (by omega)) H2 O2 (by omega) (by omega)
set_option maxRecDepth 100000 in
set_option maxHeartbeats 4000000 in
theorem un_j {E : xE} {Po : xPo} {w0 : xW} {x K a sa : Nat} {w : xW} {h h2 : xHi} {k n d i : Nat} {cs : Nat → xCo} {F : Nat → Int64} {r : Int32} {o5 : Option Value} (hK9 : K + 130000 < 16000000) (hi : i < 7) (hd : d ≤ i) (hx : h.2.1.1 < 9) (J : J9 (K + 14400 * i) (h.1 0)) (R : UR (K + 14400 * i) d h cs) (hF : ∀ j, j < d → F j = shS (cs j)) (hFd : F d = shS (h.1 0)) (U : UC (K + 14400 * i + 14400) h h2 r) (H : HI E w x h2) (O : FO w x h2 a (.inl (E.1.2 8, 9, .inr (.inl F)))) (S : sa = E.2.2.1) (hk : k ≤ 1 + 700 * i + 400) (hn : n ≤ 9 + 5500 * i + 3500) (kx : ∀ (w : xW) (h : xHi) (k n d : Nat) (cs : Nat → xCo) (F : Nat → Int64) (o5 o6 : Option Value) (J : J9 (K + 14400 * (i + 1)) (h.1 0)) (hd : d ≤ (i + 1)) (R : UR (K + 14400 * (i + 1)) d h cs) (hF : ∀ j, j < d → F j = shS (cs j)) (H : HI E w x h) (O : FO w x h a (.inl (E.1.2 8, 9, .inr (.inl F)))) (S : sa = E.2.2.1) (hk : k ≤ 1 + 700 * (i + 1)) (hn : n ≤ 9 + 5500 * (i + 1)), WF M_L_undone E Po w0 10 [some (.ref sa), some (.ref x), some (.ref a), some (.int (nI d)), some (.int (nI (i + 1))), o5, o6] [] w k n) : WF M_L_undone E Po w0 488 [some (.ref sa), some (.ref x), some (.ref a), some (.int (nI d)), some (.int (nI i)), o5, some (.int r)] [] w k n := by
  have K1 : K + 14400 * (i + 1) = K + 14400 * i + 14400 := by omega
  refine r_iload (q := 490) dL_undone_488 rfl rfl ?_
  refine r_if_ge (q := 506) (q2 := 493) dL_undone_490 (by decide) rfl (fun q => ?_) (fun q => ?_)
  · have qp : ¬ r < 0 := Int32.not_lt.mpr q
    have R2 := ur_ok R J hx (by omega) U qp
    refine r_iload_n (q := 507) dL_undone_506 rfl rfl rfl ?_
    refine r_iload (q := 509) dL_undone_507 rfl rfl ?_
    refine r_if_ge (q := 516) (q2 := 512) dL_undone_509 (by decide) rfl (fun _ => ?_) (fun h9 => absurd q h9)
    refine r_iconst (q := 517) (v := 1) dL_undone_516 rfl rfl ?_
    refine r_iadd (q := 518) dL_undone_517 rfl ?_
    rw [show nI d + (1 : Int32) = nI (d + 1) from nI_1 d]
    refine r_istore_n (q := 519) dL_undone_518 rfl (Nat.le_of_ble_eq_true rfl) (xone_of rfl) rfl ?_
    refine r_iinc (q := 522) dL_undone_519 rfl (Nat.le_of_ble_eq_true rfl) (xone_of rfl) rfl ?_
    rw [show nI i + Int32.ofInt 1 = nI (i + 1) from nI_1 i]
    refine r_goto (q := 10) dL_undone_522 (by decide) ?_
    first
      | exact kx _ h2 (k) (n) (d + 1) (csU cs d (h.1 0)) F o5 (some (.int r)) (by rw [K1]; exact U.1) (by omega) (R2.mono (by omega)) (fun j hj => by
          by_cases e : j = d
          · subst e; rw [show csU cs j (h.1 0) j = h.1 0 from if_pos rfl]; exact hFd
          · rw [show csU cs d (h.1 0) j = cs j from if_neg e]; exact hF j (by omega)) H O S (by omega) (by omega)
      | exact kx _ h2 (k) (n) d cs F o5 (some (.int r)) (by rw [K1]; exact U.1) (by omega) (R2.mono (by omega)) hF H2 O2 S2 (by omega) (by omega)
  · have qn : r < 0 := Int32.not_le.mp q
    obtain ⟨R2, E2⟩ := ur_no R hx (by omega) U qn
    refine r_aload_n (q := 494) dL_undone_493 rfl rfl rfl ?_
    refine r_callS (q := 497) (k2 := k + 300) (n2 := n + 2000) (As := [_]) dL_undone_494 s_L_undone_270 rfl rfl (Nat.le_of_ble_eq_true rfl) rfl rfl rfl (show k + 300 ≤ 12000 by omega) (show n + 2000 ≤ 90000 by omega) ⟨(show k + 300 ≤ 12000 by omega), (show n + 2000 ≤ 90000 by omega)⟩ rfl ?_
    refine ct_L_sum U.1 H (fun u2 H2 F2 => ?_)
    have O2 := O.fx F2
    have S2 := S
    show WF _ E Po _ _ _ _ _ _ _
    refine r_aload_n (q := 498) dL_undone_497 rfl rfl rfl ?_
    refine r_iload_n (q := 499) dL_undone_498 rfl rfl rfl ?_
    refine r_laload (q := 500) dL_undone_499 O2.1 (vp_in_nI (show d < 9 by omega) (by decide)) rfl ?_
    rw [nI_cl (by omega), hFd, eq_sh J E2]
    refine r_lcmp (q := 501) dL_undone_500 rfl ?_
    rw [lcmp_s]
    refine r_if_eq (q := 506) (q2 := 504) dL_undone_501 (by decide) rfl (fun _ => ?_) (fun h9 => absurd rfl h9)
    refine r_iload_n (q := 507) dL_undone_506 rfl rfl rfl ?_
    refine r_iload (q := 509) dL_undone_507 rfl rfl ?_
    refine r_if_ge (q := 516) (q2 := 512) dL_undone_509 (by decide) rfl (fun h9 => absurd h9 q) (fun _ => ?_)
    refine r_iconst (q := 513) (v := 0) dL_undone_512 rfl rfl ?_
    refine r_goto (q := 517) dL_undone_513 (by decide) ?_
    refine r_iadd (q := 518) dL_undone_517 rfl ?_
    rw [show nI d + (0 : Int32) = nI d from Int32.add_zero _]
    refine r_istore_n (q := 519) dL_undone_518 rfl (Nat.le_of_ble_eq_true rfl) (xone_of rfl) rfl ?_
    refine r_iinc (q := 522) dL_undone_519 rfl (Nat.le_of_ble_eq_true rfl) (xone_of rfl) rfl ?_
    rw [show nI i + Int32.ofInt 1 = nI (i + 1) from nI_1 i]
    refine r_goto (q := 10) dL_undone_522 (by decide) ?_
    first
      | exact kx _ h2 (k + 300) (n + 2000) (d + 1) (csU cs d (h.1 0)) F o5 (some (.int r)) (by rw [K1]; exact U.1) (by omega) (R2.mono (by omega)) (fun j hj => by
          by_cases e : j = d
          · subst e; rw [show csU cs j (h.1 0) j = h.1 0 from if_pos rfl]; exact hFd
          · rw [show csU cs d (h.1 0) j = cs j from if_neg e]; exact hF j (by omega)) H O S (by omega) (by omega)
      | exact kx _ h2 (k + 300) (n + 2000) d cs F o5 (some (.int r)) (by rw [K1]; exact U.1) (by omega) (R2.mono (by omega)) hF H2 O2 S2 (by omega) (by omega)
set_option maxRecDepth 100000 in
set_option maxHeartbeats 4000000 in
theorem un_l {E : xE} {Po : xPo} {w0 : xW} {x K a sa : Nat} (hN : E.2.2.2.1 < 2147483648) (hK9 : K + 130000 < 16000000) (hp : ∀ u : xW, Po (.inl (some (.int 1))) u) : ∀ (z i : Nat) (w : xW) (h : xHi) (k n d : Nat) (cs : Nat → xCo) (F : Nat → Int64) (o5 o6 : Option Value) (J : J9 (K + 14400 * i) (h.1 0)) (hd : d ≤ i) (R : UR (K + 14400 * i) d h cs) (hF : ∀ j, j < d → F j = shS (cs j)) (H : HI E w x h) (O : FO w x h a (.inl (E.1.2 8, 9, .inr (.inl F)))) (S : sa = E.2.2.1) (hk : k ≤ 1 + 700 * i) (hn : n ≤ 9 + 5500 * i) (hz : i + z = 7), WF M_L_undone E Po w0 10 [some (.ref sa), some (.ref x), some (.ref a), some (.int (nI d)), some (.int (nI i)), o5, o6] [] w k n := by
  intro z
  induction z with
  | zero =>
    intro i w h k n d cs F o5 o6 J hd R hF H O S hk hn hz
    obtain rfl : i = 7 := by omega
    refine r_iload (q := 12) dL_undone_10 rfl rfl ?_
    refine r_bipush (q := 14) (v := 7) dL_undone_12 (by decide) rfl ?_
    refine r_icmp_ge (q := 525) (q2 := 17) dL_undone_14 (by decide) rfl (fun _ => ?_) (fun h9 => absurd (show (7 : Int32) ≤ nI 7 by decide) h9)
    refine r_iload_n (q := 526) dL_undone_525 rfl rfl rfl ?_
    refine r_iconst (q := 527) (v := 1) dL_undone_526 rfl rfl ?_
    refine r_isub (q := 528) dL_undone_527 rfl ?_
    refine r_istore (q := 530) dL_undone_528 (Nat.le_of_ble_eq_true rfl) (xone_of rfl) rfl ?_
    exact un_u (K := K + 14400 * 7) (cs := cs) (F := F) (by omega) hp d w h (k) (n) _ _ (by omega) R hF H O (by omega) (by omega)
  | succ z ih =>
    intro i w h k n d cs F o5 o6 J hd R hF H O S hk hn hz
    refine r_iload (q := 12) dL_undone_10 rfl rfl ?_
    refine r_bipush (q := 14) (v := 7) dL_undone_12 (by decide) rfl ?_
    refine r_icmp_ge (q := 525) (q2 := 17) dL_undone_14 (by decide) rfl (fun h9 => absurd h9 (nI_ge (b := 7) (show i < 7 by omega) (by decide))) (fun _ => ?_)
    refine r_aload_n (q := 18) dL_undone_17 rfl rfl rfl ?_
    refine r_bipush (q := 20) (v := 60) dL_undone_18 (by decide) rfl ?_
    refine r_iload (q := 22) dL_undone_20 rfl rfl ?_
    refine r_iadd (q := 23) dL_undone_22 rfl ?_
    rw [show (60 : Int32) + nI i = nI (60 + i) from nI_add 60 i]
    refine r_callS (q := 26) (k2 := k) (n2 := n) (As := [_, _]) dL_undone_23 s_L_undone_126 rfl rfl (Nat.le_of_ble_eq_true rfl) rfl rfl rfl (show k ≤ 12000 by omega) (show n ≤ 90000 by omega) ⟨(show k ≤ 12000 by omega), (show n ≤ 90000 by omega)⟩ rfl ?_
    refine ct_L_cell S hN (by omega) (fun v => ?_)
    show WF _ E Po _ _ _ _ _ _ _
    refine r_iconst (q := 27) (v := 1) dL_undone_26 rfl rfl ?_
    refine r_iushr (q := 28) dL_undone_27 rfl ?_
    obtain ⟨cc, hcc, ec⟩ := us_1 v
    rw [ec]
    refine r_istore (q := 30) dL_undone_28 (Nat.le_of_ble_eq_true rfl) (xone_of rfl) rfl ?_
    refine r_aload_n (q := 31) dL_undone_30 rfl rfl rfl ?_
    refine r_iload_n (q := 32) dL_undone_31 rfl rfl rfl ?_
    refine r_aload_n (q := 33) dL_undone_32 rfl rfl rfl ?_
    refine r_callS (q := 36) (k2 := k + 300) (n2 := n + 2000) (As := [_]) dL_undone_33 s_L_undone_270 rfl rfl (Nat.le_of_ble_eq_true rfl) rfl rfl rfl (show k + 300 ≤ 12000 by omega) (show n + 2000 ≤ 90000 by omega) ⟨(show k + 300 ≤ 12000 by omega), (show n + 2000 ≤ 90000 by omega)⟩ rfl ?_
    refine ct_L_sum J H (fun u1 H1 F1 => ?_)
    have O1 := O.fx F1
    have S1 := S
    show WF _ E Po _ _ _ _ _ _ _
    refine r_lastore (q := 37) dL_undone_36 O1.1 (vp_in_nI (show d < 9 by omega) (by decide)) rfl ?_
    rw [nI_cl (by omega)]
    have S2 := S1
    obtain ⟨H2, O2⟩ := O1.put (e2 := .inl (E.1.2 8, 9, .inr (.inl (vp_updL F d (shS (h.1 0)))))) H1
    have KX : ∀ (w : xW) (h2 : xHi) (r : Int32) (k n : Nat), UC (K + 14400 * i + 14400) h h2 r → HI E w x h2 → FO w x h2 a (.inl (E.1.2 8, 9, .inr (.inl (vp_updL F d (shS (h.1 0)))))) → sa = E.2.2.1 → k ≤ 1 + 700 * i + 400 → n ≤ 9 + 5500 * i + 3500 → WF M_L_undone E Po w0 488 [some (.ref sa), some (.ref x), some (.ref a), some (.int (nI d)), some (.int (nI i)), some (.int (nI cc)), some (.int r)] [] w k n := fun w h2 r k n U H O S hk hn =>
      un_j hK9 (by omega) hd H1.1.2.2.2 J R (fun j hj => (sl_o (by omega)).trans (hF j hj)) sl_s U H O S hk hn (fun w h k n d cs F o5 o6 J hd R hF H O S hk hn => ih (i + 1) w h k n d cs F o5 o6 J hd R hF H O S hk hn (by omega))
    refine r_iload (q := 39) dL_undone_37 rfl rfl ?_
    refine r_bipush (q := 41) (v := 15) dL_undone_39 (by decide) rfl ?_
    refine r_irem (q := 42) dL_undone_41 (by decide) rfl ?_
    generalize nI cc - nI cc / 15 * 15 = z9
    by_cases e0 : z9 = 0
    · rw [e0]
      refine r_tableIn (off := 70) (q := 112) dL_undone_42 (by decide) (by decide) (by decide) (by decide) ?_
      refine r_aload_n (q := 113) dL_undone_112 rfl rfl rfl ?_
      refine r_iload (q := 115) dL_undone_113 rfl rfl ?_
      refine r_iconst (q := 116) (v := 4) dL_undone_115 rfl rfl ?_
      refine r_iushr (q := 117) dL_undone_116 rfl ?_
      refine r_iconst (q := 118) (v := 5) dL_undone_117 rfl rfl ?_
      refine r_irem (q := 119) dL_undone_118 (by decide) rfl ?_
      refine r_callSH (q := 122) (k2 := k + 301) (n2 := n + 2006) (As := [_, _]) dL_undone_119 s_L_undone_130 rfl rfl (Nat.le_of_ble_eq_true rfl) rfl rfl rfl (show k + 301 ≤ 12000 by omega) (show n + 2006 ≤ 90000 by omega) ⟨(show k + 301 ≤ 12000 by omega), (show n + 2006 ≤ 90000 by omega)⟩ rfl ?_
      refine lu_tub J (by omega) H2 (fun u3 h3 r3 U3 H3 F3 => ?_)
      have O3 := O2.fx F3
      have S3 := S2
      show WF _ E Po _ _ _ _ _ _ _
      refine r_istore (q := 124) dL_undone_122 (Nat.le_of_ble_eq_true rfl) (xone_of rfl) rfl ?_
      refine r_goto (q := 488) dL_undone_124 (by decide) ?_
      exact KX _ h3 r3 (k + 301) (n + 2006) (U3.mono (by omega)) H3 O3 S3 (by omega) (by omega)
    by_cases e1 : z9 = 1
    · rw [e1]
      refine r_tableIn (off := 85) (q := 127) dL_undone_42 (by decide) (by decide) (by decide) (by decide) ?_
      refine r_aload_n (q := 128) dL_undone_127 rfl rfl rfl ?_
      refine r_iload (q := 130) dL_undone_128 rfl rfl ?_
      refine r_iconst (q := 131) (v := 4) dL_undone_130 rfl rfl ?_
      refine r_iushr (q := 132) dL_undone_131 rfl ?_
      refine r_bipush (q := 134) (v := 11) dL_undone_132 (by decide) rfl ?_
      refine r_irem (q := 135) dL_undone_134 (by decide) rfl ?_
      refine r_callSH (q := 138) (k2 := k + 301) (n2 := n + 2006) (As := [_, _]) dL_undone_135 s_L_undone_133 rfl rfl (Nat.le_of_ble_eq_true rfl) rfl rfl rfl (show k + 301 ≤ 12000 by omega) (show n + 2006 ≤ 90000 by omega) ⟨(show k + 301 ≤ 12000 by omega), (show n + 2006 ≤ 90000 by omega)⟩ rfl ?_
      refine lu_tent J (by omega) H2 (fun u3 h3 r3 U3 H3 F3 => ?_)
      have O3 := O2.fx F3
      have S3 := S2
      show WF _ E Po _ _ _ _ _ _ _
      refine r_istore (q := 140) dL_undone_138 (Nat.le_of_ble_eq_true rfl) (xone_of rfl) rfl ?_
      refine r_goto (q := 488) dL_undone_140 (by decide) ?_
      exact KX _ h3 r3 (k + 301) (n + 2006) (U3.mono (by omega)) H3 O3 S3 (by omega) (by omega)
    by_cases e2 : z9 = 2
    · rw [e2]
      refine r_tableIn (off := 101) (q := 143) dL_undone_42 (by decide) (by decide) (by decide) (by decide) ?_
      refine r_aload_n (q := 144) dL_undone_143 rfl rfl rfl ?_
      refine r_callSH (q := 147) (k2 := k + 301) (n2 := n + 2006) (As := [_]) dL_undone_144 s_L_undone_135 rfl rfl (Nat.le_of_ble_eq_true rfl) rfl rfl rfl (show k + 301 ≤ 12000 by omega) (show n + 2006 ≤ 90000 by omega) ⟨(show k + 301 ≤ 12000 by omega), (show n + 2006 ≤ 90000 by omega)⟩ rfl ?_
      refine lu_heater J (by omega) H2 (fun u3 h3 r3 U3 H3 F3 => ?_)
      have O3 := O2.fx F3
      have S3 := S2
      show WF _ E Po _ _ _ _ _ _ _
      refine r_istore (q := 149) dL_undone_147 (Nat.le_of_ble_eq_true rfl) (xone_of rfl) rfl ?_
      refine r_goto (q := 488) dL_undone_149 (by decide) ?_
      exact KX _ h3 r3 (k + 301) (n + 2006) (U3.mono (by omega)) H3 O3 S3 (by omega) (by omega)
    by_cases e3 : z9 = 3
    · rw [e3]
      refine r_tableIn (off := 110) (q := 152) dL_undone_42 (by decide) (by decide) (by decide) (by decide) ?_
      refine r_aload_n (q := 153) dL_undone_152 rfl rfl rfl ?_
      refine r_iload (q := 155) dL_undone_153 rfl rfl ?_
      refine r_iconst (q := 156) (v := 4) dL_undone_155 rfl rfl ?_
      refine r_iushr (q := 157) dL_undone_156 rfl ?_
      refine r_bipush (q := 159) (v := 8) dL_undone_157 (by decide) rfl ?_
      refine r_irem (q := 160) dL_undone_159 (by decide) rfl ?_
      refine r_iload (q := 162) dL_undone_160 rfl rfl ?_
      refine r_bipush (q := 164) (v := 7) dL_undone_162 (by decide) rfl ?_
      refine r_iushr (q := 165) dL_undone_164 rfl ?_
      refine r_bipush (q := 167) (v := 6) dL_undone_165 (by decide) rfl ?_
      refine r_irem (q := 168) dL_undone_167 (by decide) rfl ?_
      refine r_callSH (q := 171) (k2 := k + 301) (n2 := n + 2006) (As := [_, _, _]) dL_undone_168 s_L_undone_137 rfl rfl (Nat.le_of_ble_eq_true rfl) rfl rfl rfl (show k + 301 ≤ 12000 by omega) (show n + 2006 ≤ 90000 by omega) ⟨(show k + 301 ≤ 12000 by omega), (show n + 2006 ≤ 90000 by omega)⟩ rfl ?_
      refine lu_out J (by omega) H2 (fun u3 h3 r3 U3 H3 F3 => ?_)
      have O3 := O2.fx F3
      have S3 := S2
      show WF _ E Po _ _ _ _ _ _ _
      refine r_istore (q := 173) dL_undone_171 (Nat.le_of_ble_eq_true rfl) (xone_of rfl) rfl ?_
      refine r_goto (q := 488) dL_undone_173 (by decide) ?_
      exact KX _ h3 r3 (k + 301) (n + 2006) (U3.mono (by omega)) H3 O3 S3 (by omega) (by omega)
    by_cases e4 : z9 = 4
    · rw [e4]
      refine r_tableIn (off := 110) (q := 152) dL_undone_42 (by decide) (by decide) (by decide) (by decide) ?_
      refine r_aload_n (q := 153) dL_undone_152 rfl rfl rfl ?_
      refine r_iload (q := 155) dL_undone_153 rfl rfl ?_
      refine r_iconst (q := 156) (v := 4) dL_undone_155 rfl rfl ?_
      refine r_iushr (q := 157) dL_undone_156 rfl ?_
      refine r_bipush (q := 159) (v := 8) dL_undone_157 (by decide) rfl ?_
      refine r_irem (q := 160) dL_undone_159 (by decide) rfl ?_
      refine r_iload (q := 162) dL_undone_160 rfl rfl ?_
      refine r_bipush (q := 164) (v := 7) dL_undone_162 (by decide) rfl ?_
      refine r_iushr (q := 165) dL_undone_164 rfl ?_
      refine r_bipush (q := 167) (v := 6) dL_undone_165 (by decide) rfl ?_
      refine r_irem (q := 168) dL_undone_167 (by decide) rfl ?_
      refine r_callSH (q := 171) (k2 := k + 301) (n2 := n + 2006) (As := [_, _, _]) dL_undone_168 s_L_undone_137 rfl rfl (Nat.le_of_ble_eq_true rfl) rfl rfl rfl (show k + 301 ≤ 12000 by omega) (show n + 2006 ≤ 90000 by omega) ⟨(show k + 301 ≤ 12000 by omega), (show n + 2006 ≤ 90000 by omega)⟩ rfl ?_
      refine lu_out J (by omega) H2 (fun u3 h3 r3 U3 H3 F3 => ?_)
      have O3 := O2.fx F3
      have S3 := S2
      show WF _ E Po _ _ _ _ _ _ _
      refine r_istore (q := 173) dL_undone_171 (Nat.le_of_ble_eq_true rfl) (xone_of rfl) rfl ?_
      refine r_goto (q := 488) dL_undone_173 (by decide) ?_
      exact KX _ h3 r3 (k + 301) (n + 2006) (U3.mono (by omega)) H3 O3 S3 (by omega) (by omega)
    by_cases e5 : z9 = 5
    · rw [e5]
      refine r_tableIn (off := 134) (q := 176) dL_undone_42 (by decide) (by decide) (by decide) (by decide) ?_
      refine r_aload_n (q := 177) dL_undone_176 rfl rfl rfl ?_
      refine r_iload (q := 179) dL_undone_177 rfl rfl ?_
      refine r_iconst (q := 180) (v := 4) dL_undone_179 rfl rfl ?_
      refine r_iushr (q := 181) dL_undone_180 rfl ?_
      refine r_bipush (q := 183) (v := 8) dL_undone_181 (by decide) rfl ?_
      refine r_irem (q := 184) dL_undone_183 (by decide) rfl ?_
      refine r_callSH (q := 187) (k2 := k + 301) (n2 := n + 2006) (As := [_, _]) dL_undone_184 s_L_undone_140 rfl rfl (Nat.le_of_ble_eq_true rfl) rfl rfl rfl (show k + 301 ≤ 12000 by omega) (show n + 2006 ≤ 90000 by omega) ⟨(show k + 301 ≤ 12000 by omega), (show n + 2006 ≤ 90000 by omega)⟩ rfl ?_
      refine lu_back J (by omega) H2 (fun u3 h3 r3 U3 H3 F3 => ?_)
      have O3 := O2.fx F3
      have S3 := S2
      show WF _ E Po _ _ _ _ _ _ _
      refine r_istore (q := 189) dL_undone_187 (Nat.le_of_ble_eq_true rfl) (xone_of rfl) rfl ?_
      refine r_goto (q := 488) dL_undone_189 (by decide) ?_
      exact KX _ h3 r3 (k + 301) (n + 2006) (U3.mono (by omega)) H3 O3 S3 (by omega) (by omega)
    by_cases e6 : z9 = 6
    · rw [e6]
      refine r_tableIn (off := 150) (q := 192) dL_undone_42 (by decide) (by decide) (by decide) (by decide) ?_
      refine r_aload_n (q := 193) dL_undone_192 rfl rfl rfl ?_
      refine r_iload (q := 195) dL_undone_193 rfl rfl ?_
      refine r_iconst (q := 196) (v := 4) dL_undone_195 rfl rfl ?_
      refine r_iushr (q := 197) dL_undone_196 rfl ?_
      refine r_iconst (q := 198) (v := 5) dL_undone_197 rfl rfl ?_
      refine r_irem (q := 199) dL_undone_198 (by decide) rfl ?_
      refine r_iload (q := 201) dL_undone_199 rfl rfl ?_
      refine r_bipush (q := 203) (v := 7) dL_undone_201 (by decide) rfl ?_
      refine r_iushr (q := 204) dL_undone_203 rfl ?_
      refine r_bipush (q := 206) (v := 6) dL_undone_204 (by decide) rfl ?_
      refine r_irem (q := 207) dL_undone_206 (by decide) rfl ?_
      refine r_callSH (q := 210) (k2 := k + 301) (n2 := n + 2006) (As := [_, _, _]) dL_undone_207 s_L_undone_142 rfl rfl (Nat.le_of_ble_eq_true rfl) rfl rfl rfl (show k + 301 ≤ 12000 by omega) (show n + 2006 ≤ 90000 by omega) ⟨(show k + 301 ≤ 12000 by omega), (show n + 2006 ≤ 90000 by omega)⟩ rfl ?_
      refine lu_heat J (by omega) H2 (fun u3 h3 r3 U3 H3 F3 => ?_)
      have O3 := O2.fx F3
      have S3 := S2
      show WF _ E Po _ _ _ _ _ _ _
      refine r_istore (q := 212) dL_undone_210 (Nat.le_of_ble_eq_true rfl) (xone_of rfl) rfl ?_
      refine r_goto (q := 488) dL_undone_212 (by decide) ?_
      exact KX _ h3 r3 (k + 301) (n + 2006) (U3.mono (by omega)) H3 O3 S3 (by omega) (by omega)
    by_cases e7 : z9 = 7
    · rw [e7]
      refine r_tableIn (off := 173) (q := 215) dL_undone_42 (by decide) (by decide) (by decide) (by decide) ?_
      refine r_aload_n (q := 216) dL_undone_215 rfl rfl rfl ?_
      refine r_iload (q := 218) dL_undone_216 rfl rfl ?_
      refine r_iconst (q := 219) (v := 4) dL_undone_218 rfl rfl ?_
      refine r_iushr (q := 220) dL_undone_219 rfl ?_
      refine r_iconst (q := 221) (v := 5) dL_undone_220 rfl rfl ?_
      refine r_irem (q := 222) dL_undone_221 (by decide) rfl ?_
      refine r_callSH (q := 225) (k2 := k + 301) (n2 := n + 2006) (As := [_, _]) dL_undone_222 s_L_undone_144 rfl rfl (Nat.le_of_ble_eq_true rfl) rfl rfl rfl (show k + 301 ≤ 12000 by omega) (show n + 2006 ≤ 90000 by omega) ⟨(show k + 301 ≤ 12000 by omega), (show n + 2006 ≤ 90000 by omega)⟩ rfl ?_
      refine lu_cold J (by omega) H2 (fun u3 h3 r3 U3 H3 F3 => ?_)
      have O3 := O2.fx F3
      have S3 := S2
      show WF _ E Po _ _ _ _ _ _ _
      refine r_istore (q := 227) dL_undone_225 (Nat.le_of_ble_eq_true rfl) (xone_of rfl) rfl ?_
      refine r_goto (q := 488) dL_undone_227 (by decide) ?_
      exact KX _ h3 r3 (k + 301) (n + 2006) (U3.mono (by omega)) H3 O3 S3 (by omega) (by omega)
    by_cases e8 : z9 = 8
    · rw [e8]
      refine r_tableIn (off := 188) (q := 230) dL_undone_42 (by decide) (by decide) (by decide) (by decide) ?_
      refine r_aload_n (q := 231) dL_undone_230 rfl rfl rfl ?_
      refine r_iload (q := 233) dL_undone_231 rfl rfl ?_
      refine r_iconst (q := 234) (v := 4) dL_undone_233 rfl rfl ?_
      refine r_iushr (q := 235) dL_undone_234 rfl ?_
      refine r_bipush (q := 237) (v := 6) dL_undone_235 (by decide) rfl ?_
      refine r_irem (q := 238) dL_undone_237 (by decide) rfl ?_
      refine r_callSH (q := 241) (k2 := k + 301) (n2 := n + 2006) (As := [_, _]) dL_undone_238 s_L_undone_148 rfl rfl (Nat.le_of_ble_eq_true rfl) rfl rfl rfl (show k + 301 ≤ 12000 by omega) (show n + 2006 ≤ 90000 by omega) ⟨(show k + 301 ≤ 12000 by omega), (show n + 2006 ≤ 90000 by omega)⟩ rfl ?_
      refine lu_join J (by omega) H2 (fun u3 h3 r3 U3 H3 F3 => ?_)
      have O3 := O2.fx F3
      have S3 := S2
      show WF _ E Po _ _ _ _ _ _ _
      refine r_istore (q := 243) dL_undone_241 (Nat.le_of_ble_eq_true rfl) (xone_of rfl) rfl ?_
      refine r_goto (q := 488) dL_undone_243 (by decide) ?_
      exact KX _ h3 r3 (k + 301) (n + 2006) (U3.mono (by omega)) H3 O3 S3 (by omega) (by omega)
    by_cases e9 : z9 = 9
    · rw [e9]
      refine r_tableIn (off := 204) (q := 246) dL_undone_42 (by decide) (by decide) (by decide) (by decide) ?_
      refine r_aload_n (q := 247) dL_undone_246 rfl rfl rfl ?_
      refine r_iload (q := 249) dL_undone_247 rfl rfl ?_
      refine r_iconst (q := 250) (v := 4) dL_undone_249 rfl rfl ?_
      refine r_iushr (q := 251) dL_undone_250 rfl ?_
      refine r_bipush (q := 253) (v := 8) dL_undone_251 (by decide) rfl ?_
      refine r_irem (q := 254) dL_undone_253 (by decide) rfl ?_
      refine r_iload (q := 256) dL_undone_254 rfl rfl ?_
      refine r_bipush (q := 258) (v := 7) dL_undone_256 (by decide) rfl ?_
      refine r_iushr (q := 259) dL_undone_258 rfl ?_
      refine r_bipush (q := 261) (v := 9) dL_undone_259 (by decide) rfl ?_
      refine r_irem (q := 262) dL_undone_261 (by decide) rfl ?_
      refine r_callSH (q := 265) (k2 := k + 301) (n2 := n + 2006) (As := [_, _, _]) dL_undone_262 s_L_undone_146 rfl rfl (Nat.le_of_ble_eq_true rfl) rfl rfl rfl (show k + 301 ≤ 12000 by omega) (show n + 2006 ≤ 90000 by omega) ⟨(show k + 301 ≤ 12000 by omega), (show n + 2006 ≤ 90000 by omega)⟩ rfl ?_
      refine lu_tear J (by omega) H2 (fun u3 h3 r3 U3 H3 F3 => ?_)
      have O3 := O2.fx F3
      have S3 := S2
      show WF _ E Po _ _ _ _ _ _ _
      refine r_istore (q := 267) dL_undone_265 (Nat.le_of_ble_eq_true rfl) (xone_of rfl) rfl ?_
      refine r_goto (q := 488) dL_undone_267 (by decide) ?_
      exact KX _ h3 r3 (k + 301) (n + 2006) (U3.mono (by omega)) H3 O3 S3 (by omega) (by omega)
    by_cases e10 : z9 = 10
    · rw [e10]
      refine r_tableIn (off := 228) (q := 270) dL_undone_42 (by decide) (by decide) (by decide) (by decide) ?_
      refine r_aload_n (q := 271) dL_undone_270 rfl rfl rfl ?_
      refine r_iload (q := 273) dL_undone_271 rfl rfl ?_
      refine r_iconst (q := 274) (v := 4) dL_undone_273 rfl rfl ?_
      refine r_iushr (q := 275) dL_undone_274 rfl ?_
      refine r_bipush (q := 277) (v := 8) dL_undone_275 (by decide) rfl ?_
      refine r_irem (q := 278) dL_undone_277 (by decide) rfl ?_
      refine r_iload (q := 280) dL_undone_278 rfl rfl ?_
      refine r_bipush (q := 282) (v := 7) dL_undone_280 (by decide) rfl ?_
      refine r_iushr (q := 283) dL_undone_282 rfl ?_
      refine r_bipush (q := 285) (v := 9) dL_undone_283 (by decide) rfl ?_
      refine r_irem (q := 286) dL_undone_285 (by decide) rfl ?_
      refine r_callSH (q := 289) (k2 := k + 301) (n2 := n + 2006) (As := [_, _, _]) dL_undone_286 s_L_undone_150 rfl rfl (Nat.le_of_ble_eq_true rfl) rfl rfl rfl (show k + 301 ≤ 12000 by omega) (show n + 2006 ≤ 90000 by omega) ⟨(show k + 301 ≤ 12000 by omega), (show n + 2006 ≤ 90000 by omega)⟩ rfl ?_
      refine lu_mend J (by omega) H2 (fun u3 h3 r3 U3 H3 F3 => ?_)
      have O3 := O2.fx F3
      have S3 := S2
      show WF _ E Po _ _ _ _ _ _ _
      refine r_istore (q := 291) dL_undone_289 (Nat.le_of_ble_eq_true rfl) (xone_of rfl) rfl ?_
      refine r_goto (q := 488) dL_undone_291 (by decide) ?_
      exact KX _ h3 r3 (k + 301) (n + 2006) (U3.mono (by omega)) H3 O3 S3 (by omega) (by omega)
    by_cases e11 : z9 = 11
    · rw [e11]
      refine r_tableIn (off := 252) (q := 294) dL_undone_42 (by decide) (by decide) (by decide) (by decide) ?_
      refine r_iload (q := 296) dL_undone_294 rfl rfl ?_
      refine r_bipush (q := 298) (v := 30) dL_undone_296 (by decide) rfl ?_
      refine r_irem (q := 299) dL_undone_298 (by decide) rfl ?_
      refine r_bipush (q := 301) (v := 15) dL_undone_299 (by decide) rfl ?_
      refine r_icmp_ge (q := 318) (q2 := 304) dL_undone_301 (by decide) rfl (fun h301 => ?_) (fun h301 => ?_)
      · refine r_aload_n (q := 319) dL_undone_318 rfl rfl rfl ?_
        refine r_iload (q := 321) dL_undone_319 rfl rfl ?_
        refine r_iconst (q := 322) (v := 5) dL_undone_321 rfl rfl ?_
        refine r_iushr (q := 323) dL_undone_322 rfl ?_
        refine r_bipush (q := 325) (v := 22) dL_undone_323 (by decide) rfl ?_
        refine r_irem (q := 326) dL_undone_325 (by decide) rfl ?_
        refine r_callSH (q := 329) (k2 := k + 301) (n2 := n + 2006) (As := [_, _]) dL_undone_326 s_L_undone_154 rfl rfl (Nat.le_of_ble_eq_true rfl) rfl rfl rfl (show k + 301 ≤ 12000 by omega) (show n + 2006 ≤ 90000 by omega) ⟨(show k + 301 ≤ 12000 by omega), (show n + 2006 ≤ 90000 by omega)⟩ rfl ?_
        refine lu_soap J (by omega) H2 (fun u3 h3 r3 U3 H3 F3 => ?_)
        have O3 := O2.fx F3
        have S3 := S2
        show WF _ E Po _ _ _ _ _ _ _
        refine r_istore (q := 331) dL_undone_329 (Nat.le_of_ble_eq_true rfl) (xone_of rfl) rfl ?_
        refine r_goto (q := 488) dL_undone_331 (by decide) ?_
        exact KX _ h3 r3 (k + 301) (n + 2006) (U3.mono (by omega)) H3 O3 S3 (by omega) (by omega)
      · refine r_aload_n (q := 305) dL_undone_304 rfl rfl rfl ?_
        refine r_iload (q := 307) dL_undone_305 rfl rfl ?_
        refine r_iconst (q := 308) (v := 5) dL_undone_307 rfl rfl ?_
        refine r_iushr (q := 309) dL_undone_308 rfl ?_
        refine r_bipush (q := 311) (v := 22) dL_undone_309 (by decide) rfl ?_
        refine r_irem (q := 312) dL_undone_311 (by decide) rfl ?_
        refine r_callSH (q := 315) (k2 := k + 301) (n2 := n + 2006) (As := [_, _]) dL_undone_312 s_L_undone_152 rfl rfl (Nat.le_of_ble_eq_true rfl) rfl rfl rfl (show k + 301 ≤ 12000 by omega) (show n + 2006 ≤ 90000 by omega) ⟨(show k + 301 ≤ 12000 by omega), (show n + 2006 ≤ 90000 by omega)⟩ rfl ?_
        refine lu_wash J (by omega) H2 (fun u3 h3 r3 U3 H3 F3 => ?_)
        have O3 := O2.fx F3
        have S3 := S2
        show WF _ E Po _ _ _ _ _ _ _
        refine r_goto (q := 329) dL_undone_315 (by decide) ?_
        refine r_istore (q := 331) dL_undone_329 (Nat.le_of_ble_eq_true rfl) (xone_of rfl) rfl ?_
        refine r_goto (q := 488) dL_undone_331 (by decide) ?_
        exact KX _ h3 r3 (k + 301) (n + 2006) (U3.mono (by omega)) H3 O3 S3 (by omega) (by omega)
    by_cases e12 : z9 = 12
    · rw [e12]
      refine r_tableIn (off := 292) (q := 334) dL_undone_42 (by decide) (by decide) (by decide) (by decide) ?_
      refine r_aload_n (q := 335) dL_undone_334 rfl rfl rfl ?_
      refine r_iload (q := 337) dL_undone_335 rfl rfl ?_
      refine r_iconst (q := 338) (v := 4) dL_undone_337 rfl rfl ?_
      refine r_iushr (q := 339) dL_undone_338 rfl ?_
      refine r_iconst (q := 340) (v := 5) dL_undone_339 rfl rfl ?_
      refine r_irem (q := 341) dL_undone_340 (by decide) rfl ?_
      refine r_iload (q := 343) dL_undone_341 rfl rfl ?_
      refine r_bipush (q := 345) (v := 7) dL_undone_343 (by decide) rfl ?_
      refine r_iushr (q := 346) dL_undone_345 rfl ?_
      refine r_bipush (q := 348) (v := 14) dL_undone_346 (by decide) rfl ?_
      refine r_irem (q := 349) dL_undone_348 (by decide) rfl ?_
      refine r_callSH (q := 352) (k2 := k + 301) (n2 := n + 2006) (As := [_, _, _]) dL_undone_349 s_L_undone_156 rfl rfl (Nat.le_of_ble_eq_true rfl) rfl rfl rfl (show k + 301 ≤ 12000 by omega) (show n + 2006 ≤ 90000 by omega) ⟨(show k + 301 ≤ 12000 by omega), (show n + 2006 ≤ 90000 by omega)⟩ rfl ?_
      refine lu_gas J (by omega) H2 (fun u3 h3 r3 U3 H3 F3 => ?_)
      have O3 := O2.fx F3
      have S3 := S2
      show WF _ E Po _ _ _ _ _ _ _
      refine r_istore (q := 354) dL_undone_352 (Nat.le_of_ble_eq_true rfl) (xone_of rfl) rfl ?_
      refine r_goto (q := 488) dL_undone_354 (by decide) ?_
      exact KX _ h3 r3 (k + 301) (n + 2006) (U3.mono (by omega)) H3 O3 S3 (by omega) (by omega)
    by_cases e13 : z9 = 13
    · rw [e13]
      refine r_tableIn (off := 315) (q := 357) dL_undone_42 (by decide) (by decide) (by decide) (by decide) ?_
      refine r_aload_n (q := 358) dL_undone_357 rfl rfl rfl ?_
      refine r_iload (q := 360) dL_undone_358 rfl rfl ?_
      refine r_iconst (q := 361) (v := 4) dL_undone_360 rfl rfl ?_
      refine r_iushr (q := 362) dL_undone_361 rfl ?_
      refine r_bipush (q := 364) (v := 50) dL_undone_362 (by decide) rfl ?_
      refine r_irem (q := 365) dL_undone_364 (by decide) rfl ?_
      refine r_callSH (q := 368) (k2 := k + 301) (n2 := n + 2006) (As := [_, _]) dL_undone_365 s_L_undone_158 rfl rfl (Nat.le_of_ble_eq_true rfl) rfl rfl rfl (show k + 301 ≤ 12000 by omega) (show n + 2006 ≤ 90000 by omega) ⟨(show k + 301 ≤ 12000 by omega), (show n + 2006 ≤ 90000 by omega)⟩ rfl ?_
      refine lu_pass J (by omega) H2 (fun u3 h3 r3 U3 H3 F3 => ?_)
      have O3 := O2.fx F3
      have S3 := S2
      show WF _ E Po _ _ _ _ _ _ _
      refine r_istore (q := 370) dL_undone_368 (Nat.le_of_ble_eq_true rfl) (xone_of rfl) rfl ?_
      refine r_goto (q := 488) dL_undone_370 (by decide) ?_
      exact KX _ h3 r3 (k + 301) (n + 2006) (U3.mono (by omega)) H3 O3 S3 (by omega) (by omega)
    refine r_tableOut (q := 373) dL_undone_42 (sw_out 13 (by decide) (fun k hk => by rcases (show k = 0 ∨ k = 1 ∨ k = 2 ∨ k = 3 ∨ k = 4 ∨ k = 5 ∨ k = 6 ∨ k = 7 ∨ k = 8 ∨ k = 9 ∨ k = 10 ∨ k = 11 ∨ k = 12 ∨ k = 13 by omega) with rfl | rfl | rfl | rfl | rfl | rfl | rfl | rfl | rfl | rfl | rfl | rfl | rfl | rfl <;> assumption)) (by decide) ?_
    refine un_s (K := K + 14400 * i) J (by omega) hcc H2 (by omega) (by omega) (fun u3 h3 r3 k2 n2 U3 H3 F3 hk2 hn2 => ?_)
    refine r_istore (q := 488) dL_undone_486 (Nat.le_of_ble_eq_true rfl) (xone_of rfl) rfl ?_
    exact KX _ h3 r3 k2 n2 U3 H3 (O2.fx F3) (S2) (by omega) (by omega)
set_option maxRecDepth 100000 in
set_option maxHeartbeats 4000000 in
theorem ct_L_undone {E : xE} {Po : xPo} {w : xW} {x K sa : Nat} {h : xHi} (hN : E.2.2.2.1 < 2147483648) (J : J9 K (h.1 0)) (hK9 : K + 130000 < 16000000) (C : CN h) (H : HI E w x h) (S : sa = E.2.2.1) (hp : ∀ u : xW, Po (.inl (some (.int 1))) u) : Ct M_L_undone E [.ref sa, .ref x] w Po := by
  refine Ct.of (ws2 := xPv ++ xAll) (L := [some (.ref sa), some (.ref x), none, none, none, none, none]) (by decide +kernel) rfl rfl (List.forall_mem_cons.mpr ⟨rfl, List.forall_mem_cons.mpr ⟨rfl, fun _ h => absurd h List.not_mem_nil⟩⟩) (Nat.le_of_ble_eq_true rfl) rfl ?_
  refine r_bipush (q := 2) (v := 9) dL_undone_0 (by decide) rfl ?_
  refine r_newarray (q := 4) (ty := .long) (t0 := 8) (N := 9) (a0 := (9, .inr (.inl (fun _ => 0)))) dL_undone_2 rfl (mP aw_long) rfl (fun _ h => h) rfl (by decide) (by decide) (by decide) (show 0 + 1 ≤ 12000 by omega) (show 0 + 9 ≤ 90000 by omega) rfl ?_
  obtain ⟨H1, X1, O1⟩ := H.add (e := .inl (E.1.2 8, 9, .inr (.inl (fun _ => (0 : Int64)))))
  have S1 := S
  refine r_astore_n (q := 5) dL_undone_4 rfl (Nat.le_of_ble_eq_true rfl) (xone_of rfl) rfl ?_
  refine r_iconst (q := 6) (v := 0) dL_undone_5 rfl rfl ?_
  refine r_istore_n (q := 7) dL_undone_6 rfl (Nat.le_of_ble_eq_true rfl) (xone_of rfl) rfl ?_
  refine r_iconst (q := 8) (v := 0) dL_undone_7 rfl rfl ?_
  refine r_istore (q := 10) dL_undone_8 (Nat.le_of_ble_eq_true rfl) (xone_of rfl) rfl ?_
  obtain ⟨n9, hn9, en9⟩ := C
  exact un_l (K := K) hN hK9 hp 7 0 _ h (0 + 1) (0 + 9) 0 (fun _ => h.1 0) _ none none (J.mono (by omega)) (by omega) ⟨n9, hn9, by omega, en9, fun j hj => absurd hj (Nat.not_lt_zero j)⟩ (fun j hj => absurd hj (Nat.not_lt_zero j)) H1 O1 S1 (by omega) (by omega) (by omega)
