/-! ===== 69u.undone: all is undone (rows laid by wip/p39/gen/make69u.py) ===== -/
set_option maxRecDepth 100000 in
set_option maxHeartbeats 4000000 in
theorem un_s {E : xE} {Po : xPo} {w0 w : xW} {x K a sa d i cc k n : Nat} {h : xHi} {o6 : Option Value} (J : J9 K (h.1 0)) (hK9 : K + 14640 < 16000000) (hcc : cc < 2147483648) (H : HI E w x h) (hk : k ≤ 11000) (hn : n ≤ 80000) (kx : ∀ (u : xW) (h2 : xHi) (r : Int32) (k2 n2 : Nat), UC (K + 14400) h h2 r → HI E u x h2 → FX w u x h h2 → k2 ≤ k + 100 → n2 ≤ n + 1500 → WF M_L_undone E Po w0 486 [some (.ref sa), some (.ref x), some (.ref a), some (.int (nI d)), some (.int (nI i)), some (.int (nI cc)), o6] [.int r] u k2 n2) : WF M_L_undone E Po w0 373 [some (.ref sa), some (.ref x), some (.ref a), some (.int (nI d)), some (.int (nI i)), some (.int (nI cc)), o6] [] w k n := by
  refine r_aload_n (q := 374) dL_undone_373 rfl rfl rfl ?_
  refine r_new (q := 377) dL_undone_374 nw_L_undone_207 (show k + 1 ≤ 12000 by omega) (show n + 4 ≤ 90000 by omega) rfl ?_
  refine r_dup (q := 378) dL_undone_377 rfl rfl ?_
  refine r_callI (q := 381) (k2 := k + 2) (n2 := n + 20) (As := []) dL_undone_378 s_L_undone_209 rfl (Nat.le_of_ble_eq_true rfl) rfl rfl rfl ⟨(show k + 2 ≤ 12000 by omega), (show n + 20 ≤ 90000 by omega)⟩ rfl ?_
  refine nw_init ?_
  show WF _ E Po _ _ _ _ _ _ _
  obtain ⟨H1, X1, Y1, -⟩ := bb_new H (FX.id (w := w) (h := h))
  refine r_ldcSw (i := 33) (q := 384) dL_undone_381 rfl rfl ?_
  refine r_callV (q := 387) (ci := 1) (k2 := k + 3) (n2 := n + 142) (As := [_]) dL_undone_384 s_L_undone_219 Y1.1.1 rfl rfl rfl (Nat.le_of_ble_eq_true rfl) rfl rfl rfl (show k + 3 ≤ 12000 by omega) (show n + 142 ≤ 90000 by omega) ⟨(show k + 3 ≤ 12000 by omega), (show n + 142 ≤ 90000 by omega)⟩ rfl ?_
  refine bl_k (i := 33) Y1 H1 X1 (by decide) (by decide) (fun v2 B2 H2 X2 Y2 G2 => ?_)
  show WF _ E Po _ _ _ _ _ _ _
  obtain ⟨l2, m2, Y2⟩ : ∃ l9 : List Int32, l9.length = 6 ∧ BB E w v2 x h _ B2 l9 := ⟨_, rfl, Y2⟩
  refine r_iconst (q := 388) (v := 1) dL_undone_387 rfl rfl ?_
  refine r_iload (q := 390) dL_undone_388 rfl rfl ?_
  refine r_iconst (q := 391) (v := 4) dL_undone_390 rfl rfl ?_
  refine r_iushr (q := 392) dL_undone_391 rfl ?_
  rw [pk_ushrN (show cc < 2 ^ 32 by omega) 4 4 (by decide)]
  refine r_bipush (q := 394) (v := 9) dL_undone_392 (by decide) rfl ?_
  refine r_irem (q := 395) dL_undone_394 (by decide) rfl ?_
  rw [show nI (cc / 2 ^ 4) - nI (cc / 2 ^ 4) / 9 * 9 = nI (cc / 2 ^ 4 % 9) from pk_rem (d := 9) (by omega) (by decide) (by decide)]
  refine r_iadd (q := 396) dL_undone_395 rfl ?_
  rw [show (1 : Int32) + nI (cc / 2 ^ 4 % 9) = nI (1 + cc / 2 ^ 4 % 9) from nI_add 1 _]
  refine r_callV (q := 399) (ci := 1) (k2 := k + 4) (n2 := n + 264) (As := [_]) dL_undone_396 s_L_undone_210 Y2.1.1 rfl rfl rfl (Nat.le_of_ble_eq_true rfl) rfl rfl rfl (show k + 4 ≤ 12000 by omega) (show n + 264 ≤ 90000 by omega) ⟨(show k + 4 ≤ 12000 by omega), (show n + 264 ≤ 90000 by omega)⟩ rfl ?_
  have d2 := digs_l1 (a := 1 + cc / 2 ^ 4 % 9) (by omega)
  refine bl_d (a := 1 + cc / 2 ^ 4 % 9) Y2 H2 X2 (by omega) (by rw [m2, d2]; decide) (fun v3 B3 H3 X3 Y3 G3 => ?_)
  show WF _ E Po _ _ _ _ _ _ _
  obtain ⟨l3, m3, Y3⟩ : ∃ l9 : List Int32, l9.length = 7 ∧ BB E w v3 x h _ B3 l9 := ⟨_, by rw [List.length_append, m2, d2], Y3⟩
  refine r_ldcSw (i := 34) (q := 402) dL_undone_399 rfl rfl ?_
  refine r_callV (q := 405) (ci := 1) (k2 := k + 5) (n2 := n + 386) (As := [_]) dL_undone_402 s_L_undone_219 Y3.1.1 rfl rfl rfl (Nat.le_of_ble_eq_true rfl) rfl rfl rfl (show k + 5 ≤ 12000 by omega) (show n + 386 ≤ 90000 by omega) ⟨(show k + 5 ≤ 12000 by omega), (show n + 386 ≤ 90000 by omega)⟩ rfl ?_
  refine bl_k (i := 34) Y3 H3 X3 (by decide) (by rw [m3]; decide) (fun v4 B4 H4 X4 Y4 G4 => ?_)
  show WF _ E Po _ _ _ _ _ _ _
  obtain ⟨l4, m4, Y4⟩ : ∃ l9 : List Int32, l9.length = 13 ∧ BB E w v4 x h _ B4 l9 := ⟨_, by rw [List.length_append, m3]; rfl, Y4⟩
  refine r_iload (q := 407) dL_undone_405 rfl rfl ?_
  refine r_bipush (q := 409) (v := 8) dL_undone_407 (by decide) rfl ?_
  refine r_iushr (q := 410) dL_undone_409 rfl ?_
  rw [pk_ushrN (show cc < 2 ^ 32 by omega) 8 8 (by decide)]
  refine r_iconst (q := 411) (v := 4) dL_undone_410 rfl rfl ?_
  refine r_irem (q := 412) dL_undone_411 (by decide) rfl ?_
  rw [show nI (cc / 2 ^ 8) - nI (cc / 2 ^ 8) / 4 * 4 = nI (cc / 2 ^ 8 % 4) from pk_rem (d := 4) (by omega) (by decide) (by decide)]
  refine r_callV (q := 415) (ci := 1) (k2 := k + 6) (n2 := n + 508) (As := [_]) dL_undone_412 s_L_undone_210 Y4.1.1 rfl rfl rfl (Nat.le_of_ble_eq_true rfl) rfl rfl rfl (show k + 6 ≤ 12000 by omega) (show n + 508 ≤ 90000 by omega) ⟨(show k + 6 ≤ 12000 by omega), (show n + 508 ≤ 90000 by omega)⟩ rfl ?_
  have d4 := digs_l1 (a := cc / 2 ^ 8 % 4) (by omega)
  refine bl_d (a := cc / 2 ^ 8 % 4) Y4 H4 X4 (by omega) (by rw [m4, d4]; decide) (fun v5 B5 H5 X5 Y5 G5 => ?_)
  show WF _ E Po _ _ _ _ _ _ _
  obtain ⟨l5, m5, Y5⟩ : ∃ l9 : List Int32, l9.length = 14 ∧ BB E w v5 x h _ B5 l9 := ⟨_, by rw [List.length_append, m4, d4], Y5⟩
  refine r_iload (q := 417) dL_undone_415 rfl rfl ?_
  refine r_iconst (q := 418) (v := 2) dL_undone_417 rfl rfl ?_
  refine r_irem (q := 419) dL_undone_418 (by decide) rfl ?_
  refine r_if_ne (q := 451) (q2 := 422) dL_undone_419 (by decide) rfl (fun h419 => ?_) (fun h419 => ?_)
  · refine r_new (q := 454) dL_undone_451 nw_L_undone_207 (show k + 6 + 1 ≤ 12000 by omega) (show n + 508 + 4 ≤ 90000 by omega) rfl ?_
    refine r_dup (q := 455) dL_undone_454 rfl rfl ?_
    refine r_callI (q := 458) (k2 := k + 8) (n2 := n + 528) (As := []) dL_undone_455 s_L_undone_209 rfl (Nat.le_of_ble_eq_true rfl) rfl rfl rfl ⟨(show k + 8 ≤ 12000 by omega), (show n + 528 ≤ 90000 by omega)⟩ rfl ?_
    refine nw_init ?_
    show WF _ E Po _ _ _ _ _ _ _
    obtain ⟨H6, X6, Y6, -⟩ := bb_new H5 (FX.id (w := v5) (h := h))
    refine r_ldcSw (i := 36) (q := 461) dL_undone_458 rfl rfl ?_
    refine r_callV (q := 464) (ci := 1) (k2 := k + 9) (n2 := n + 650) (As := [_]) dL_undone_461 s_L_undone_219 Y6.1.1 rfl rfl rfl (Nat.le_of_ble_eq_true rfl) rfl rfl rfl (show k + 9 ≤ 12000 by omega) (show n + 650 ≤ 90000 by omega) ⟨(show k + 9 ≤ 12000 by omega), (show n + 650 ≤ 90000 by omega)⟩ rfl ?_
    refine bl_k (i := 36) Y6 H6 X6 (by decide) (by decide) (fun v7 B7 H7 X7 Y7 G7 => ?_)
    show WF _ E Po _ _ _ _ _ _ _
    obtain ⟨l7, m7, Y7⟩ : ∃ l9 : List Int32, l9.length = 13 ∧ BB E v5 v7 x h _ B7 l9 := ⟨_, rfl, Y7⟩
    refine r_iload (q := 466) dL_undone_464 rfl rfl ?_
    refine r_bipush (q := 468) (v := 10) dL_undone_466 (by decide) rfl ?_
    refine r_iushr (q := 469) dL_undone_468 rfl ?_
    rw [pk_ushrN (show cc < 2 ^ 32 by omega) 10 10 (by decide)]
    refine r_iconst (q := 470) (v := 3) dL_undone_469 rfl rfl ?_
    refine r_irem (q := 471) dL_undone_470 (by decide) rfl ?_
    rw [show nI (cc / 2 ^ 10) - nI (cc / 2 ^ 10) / 3 * 3 = nI (cc / 2 ^ 10 % 3) from pk_rem (d := 3) (by omega) (by decide) (by decide)]
    refine r_callV (q := 474) (ci := 1) (k2 := k + 10) (n2 := n + 772) (As := [_]) dL_undone_471 s_L_undone_210 Y7.1.1 rfl rfl rfl (Nat.le_of_ble_eq_true rfl) rfl rfl rfl (show k + 10 ≤ 12000 by omega) (show n + 772 ≤ 90000 by omega) ⟨(show k + 10 ≤ 12000 by omega), (show n + 772 ≤ 90000 by omega)⟩ rfl ?_
    have d7 := digs_l1 (a := cc / 2 ^ 10 % 3) (by omega)
    refine bl_d (a := cc / 2 ^ 10 % 3) Y7 H7 X7 (by omega) (by rw [m7, d7]; decide) (fun v8 B8 H8 X8 Y8 G8 => ?_)
    show WF _ E Po _ _ _ _ _ _ _
    obtain ⟨l8, m8, Y8⟩ : ∃ l9 : List Int32, l9.length = 14 ∧ BB E v5 v8 x h _ B8 l9 := ⟨_, by rw [List.length_append, m7, d7], Y8⟩
    refine r_callV (q := 477) (ci := 1) (k2 := k + 12) (n2 := n + 842) (As := []) dL_undone_474 s_L_undone_230 Y8.1.1 rfl rfl rfl (Nat.le_of_ble_eq_true rfl) rfl rfl rfl (show k + 12 ≤ 12000 by omega) (show n + 842 ≤ 90000 by omega) ⟨(show k + 12 ≤ 12000 by omega), (show n + 842 ≤ 90000 by omega)⟩ rfl ?_
    refine bl_t Y8 H8 X8 (by rw [m8]; decide) (fun v9 g9 H9 F9 X9 T9 => ?_)
    show WF _ E Po _ _ _ _ _ _ _
    have Z9 := Y5.fx X9
    have W9 := X5.tr X9
    have p1 := Y5.1.2.2.1
    have p2 := Y5.1.2.2.2
    have p3 := X8.1.1
    refine r_callV (q := 480) (ci := 1) (k2 := k + 13) (n2 := n + 964) (As := [_]) dL_undone_477 s_L_undone_219 Z9.1.1 rfl rfl rfl (Nat.le_of_ble_eq_true rfl) rfl rfl rfl (show k + 13 ≤ 12000 by omega) (show n + 964 ≤ 90000 by omega) ⟨(show k + 13 ≤ 12000 by omega), (show n + 964 ≤ 90000 by omega)⟩ rfl ?_
    refine bl_s Z9 H9 W9 T9 ⟨by omega, by omega⟩ ⟨by omega, by omega⟩ (by rw [m5, m8]; decide) (fun v10 B10 H10 X10 Y10 G10 => ?_)
    show WF _ E Po _ _ _ _ _ _ _
    refine r_callV (q := 483) (ci := 1) (k2 := k + 15) (n2 := n + 1034) (As := []) dL_undone_480 s_L_undone_230 Y10.1.1 rfl rfl rfl (Nat.le_of_ble_eq_true rfl) rfl rfl rfl (show k + 15 ≤ 12000 by omega) (show n + 1034 ≤ 90000 by omega) ⟨(show k + 15 ≤ 12000 by omega), (show n + 1034 ≤ 90000 by omega)⟩ rfl ?_
    refine bl_t Y10 H10 X10 (by rw [List.length_append, m5, m8]; decide) (fun v11 g11 H11 F11 X11 T11 => ?_)
    show WF _ E Po _ _ _ _ _ _ _
    refine r_callS (q := 486) (k2 := k + 85) (n2 := n + 1454) (As := [_, _]) dL_undone_483 s_L_undone_282 rfl rfl (Nat.le_of_ble_eq_true rfl) rfl rfl rfl (show k + 85 ≤ 12000 by omega) (show n + 1454 ≤ 90000 by omega) ⟨(show k + 85 ≤ 12000 by omega), (show n + 1454 ≤ 90000 by omega)⟩ rfl ?_
    refine ct_L_read J hK9 (by rw [List.length_append, m5, m8]; decide) T11.2.2 H11 T11.1 T11.2.1 (fun u12 h12 r12 U12 H12 F12 => ?_)
    show WF _ E Po _ _ _ _ _ _ _
    exact kx _ h12 r12 (k + 85) (n + 1454) U12 H12 (X11.tr F12) (by omega) (by omega)
  · refine r_new (q := 425) dL_undone_422 nw_L_undone_207 (show k + 6 + 1 ≤ 12000 by omega) (show n + 508 + 4 ≤ 90000 by omega) rfl ?_
    refine r_dup (q := 426) dL_undone_425 rfl rfl ?_
    refine r_callI (q := 429) (k2 := k + 8) (n2 := n + 528) (As := []) dL_undone_426 s_L_undone_209 rfl (Nat.le_of_ble_eq_true rfl) rfl rfl rfl ⟨(show k + 8 ≤ 12000 by omega), (show n + 528 ≤ 90000 by omega)⟩ rfl ?_
    refine nw_init ?_
    show WF _ E Po _ _ _ _ _ _ _
    obtain ⟨H6, X6, Y6, -⟩ := bb_new H5 (FX.id (w := v5) (h := h))
    refine r_ldcSw (i := 35) (q := 432) dL_undone_429 rfl rfl ?_
    refine r_callV (q := 435) (ci := 1) (k2 := k + 9) (n2 := n + 650) (As := [_]) dL_undone_432 s_L_undone_219 Y6.1.1 rfl rfl rfl (Nat.le_of_ble_eq_true rfl) rfl rfl rfl (show k + 9 ≤ 12000 by omega) (show n + 650 ≤ 90000 by omega) ⟨(show k + 9 ≤ 12000 by omega), (show n + 650 ≤ 90000 by omega)⟩ rfl ?_
    refine bl_k (i := 35) Y6 H6 X6 (by decide) (by decide) (fun v7 B7 H7 X7 Y7 G7 => ?_)
    show WF _ E Po _ _ _ _ _ _ _
    obtain ⟨l7, m7, Y7⟩ : ∃ l9 : List Int32, l9.length = 6 ∧ BB E v5 v7 x h _ B7 l9 := ⟨_, rfl, Y7⟩
    refine r_iload (q := 437) dL_undone_435 rfl rfl ?_
    refine r_bipush (q := 439) (v := 10) dL_undone_437 (by decide) rfl ?_
    refine r_iushr (q := 440) dL_undone_439 rfl ?_
    rw [pk_ushrN (show cc < 2 ^ 32 by omega) 10 10 (by decide)]
    refine r_iconst (q := 441) (v := 4) dL_undone_440 rfl rfl ?_
    refine r_irem (q := 442) dL_undone_441 (by decide) rfl ?_
    rw [show nI (cc / 2 ^ 10) - nI (cc / 2 ^ 10) / 4 * 4 = nI (cc / 2 ^ 10 % 4) from pk_rem (d := 4) (by omega) (by decide) (by decide)]
    refine r_callV (q := 445) (ci := 1) (k2 := k + 10) (n2 := n + 772) (As := [_]) dL_undone_442 s_L_undone_210 Y7.1.1 rfl rfl rfl (Nat.le_of_ble_eq_true rfl) rfl rfl rfl (show k + 10 ≤ 12000 by omega) (show n + 772 ≤ 90000 by omega) ⟨(show k + 10 ≤ 12000 by omega), (show n + 772 ≤ 90000 by omega)⟩ rfl ?_
    have d7 := digs_l1 (a := cc / 2 ^ 10 % 4) (by omega)
    refine bl_d (a := cc / 2 ^ 10 % 4) Y7 H7 X7 (by omega) (by rw [m7, d7]; decide) (fun v8 B8 H8 X8 Y8 G8 => ?_)
    show WF _ E Po _ _ _ _ _ _ _
    obtain ⟨l8, m8, Y8⟩ : ∃ l9 : List Int32, l9.length = 7 ∧ BB E v5 v8 x h _ B8 l9 := ⟨_, by rw [List.length_append, m7, d7], Y8⟩
    refine r_callV (q := 448) (ci := 1) (k2 := k + 12) (n2 := n + 842) (As := []) dL_undone_445 s_L_undone_230 Y8.1.1 rfl rfl rfl (Nat.le_of_ble_eq_true rfl) rfl rfl rfl (show k + 12 ≤ 12000 by omega) (show n + 842 ≤ 90000 by omega) ⟨(show k + 12 ≤ 12000 by omega), (show n + 842 ≤ 90000 by omega)⟩ rfl ?_
    refine bl_t Y8 H8 X8 (by rw [m8]; decide) (fun v9 g9 H9 F9 X9 T9 => ?_)
    show WF _ E Po _ _ _ _ _ _ _
    have Z9 := Y5.fx X9
    have W9 := X5.tr X9
    have p1 := Y5.1.2.2.1
    have p2 := Y5.1.2.2.2
    have p3 := X8.1.1
    refine r_goto (q := 477) dL_undone_448 (by decide) ?_
    refine r_callV (q := 480) (ci := 1) (k2 := k + 13) (n2 := n + 964) (As := [_]) dL_undone_477 s_L_undone_219 Z9.1.1 rfl rfl rfl (Nat.le_of_ble_eq_true rfl) rfl rfl rfl (show k + 13 ≤ 12000 by omega) (show n + 964 ≤ 90000 by omega) ⟨(show k + 13 ≤ 12000 by omega), (show n + 964 ≤ 90000 by omega)⟩ rfl ?_
    refine bl_s Z9 H9 W9 T9 ⟨by omega, by omega⟩ ⟨by omega, by omega⟩ (by rw [m5, m8]; decide) (fun v10 B10 H10 X10 Y10 G10 => ?_)
    show WF _ E Po _ _ _ _ _ _ _
    refine r_callV (q := 483) (ci := 1) (k2 := k + 15) (n2 := n + 1034) (As := []) dL_undone_480 s_L_undone_230 Y10.1.1 rfl rfl rfl (Nat.le_of_ble_eq_true rfl) rfl rfl rfl (show k + 15 ≤ 12000 by omega) (show n + 1034 ≤ 90000 by omega) ⟨(show k + 15 ≤ 12000 by omega), (show n + 1034 ≤ 90000 by omega)⟩ rfl ?_
    refine bl_t Y10 H10 X10 (by rw [List.length_append, m5, m8]; decide) (fun v11 g11 H11 F11 X11 T11 => ?_)
    show WF _ E Po _ _ _ _ _ _ _
    refine r_callS (q := 486) (k2 := k + 85) (n2 := n + 1454) (As := [_, _]) dL_undone_483 s_L_undone_282 rfl rfl (Nat.le_of_ble_eq_true rfl) rfl rfl rfl (show k + 85 ≤ 12000 by omega) (show n + 1454 ≤ 90000 by omega) ⟨(show k + 85 ≤ 12000 by omega), (show n + 1454 ≤ 90000 by omega)⟩ rfl ?_
    refine ct_L_read J hK9 (by rw [List.length_append, m5, m8]; decide) T11.2.2 H11 T11.1 T11.2.1 (fun u12 h12 r12 U12 H12 F12 => ?_)
    show WF _ E Po _ _ _ _ _ _ _
    exact kx _ h12 r12 (k + 85) (n + 1454) U12 H12 (X11.tr F12) (by omega) (by omega)
