/-! ===== 10.tents: the rest of tubs and tents (rows laid by wip/p39/gen/leafs2.py) ===== -/
theorem sw_out {x : Int32} (n : Nat) (hn : n < 2147483647) (h : ∀ k, k ≤ n → x ≠ nI k) : x.toInt < 0 ∨ (n : Int) < x.toInt := by
  rcases pk_ix x (n := n + 1) (by omega) with h1 | h1 | ⟨j, hj, rfl⟩
  · left
    simpa [Int32.lt_iff_toInt_lt] using h1
  · right
    have h2 := Int32.le_iff_toInt_le.mp h1
    rw [nI_toInt (by omega)] at h2
    omega
  · exact absurd rfl (h j (by omega))
theorem ixOf {x : Int32} {n : Nat} (hn : n < 2147483648) (h0 : ¬ x < 0) (h1 : ¬ nI n ≤ x) : ∃ j, j < n ∧ x = nI j := by
  rcases pk_ix x hn with h | h | h
  · exact absurd h h0
  · exact absurd h h1
  · exact h
theorem nI_cl {j : Nat} (h : j < 2147483648) : (nI j).toNatClampNeg = j := nI_clamp h
def tfS (u : Int32) : Nat → Nat → Int32
  | 0, _ => -1
  | n + 1, j => if u >>> (nI j &&& 31) &&& 1 = 0 then tfS u n (j + 1) else nI j
def gAtS (f : Nat → Int32) (p : Int32) : Int32 := if p < 0 ∨ f 4 ≤ p ∨ 6 ≤ p then -1 else f (5 + p.toNatClampNeg)
def awS (f : Nat → Int32) (x : Int32) : Nat → Nat → Int32
  | 0, _ => 0
  | n + 1, j => if gAtS f (nI j) = x then 1 else awS f x n (j + 1)
def tldS (f : Nat → Int32) (x : Int32) : Int32 := if x = 0 then f 0 else if x = 1 then f 1 else if x = 2 then f 2 else if x = 3 then f 3 else if x = 4 then (if f 3 ≤ 0 then 0 else f 4) else if x = 5 then bb (f 5) else f 6
def tltS (f : Nat → Int32) (x : Int32) : Int32 := if x = 0 then f 0 else if x = 1 then f 1 else if x = 2 then f 2 else if x = 3 then f 4 else f 3
def shF (f : Nat → Int32) (j : Nat) : Nat → Int32 := fun k => if 5 ≤ k ∧ k < 5 + j then f (k + 1) else f k
def cpF (f g : Nat → Int32) (j : Nat) : Nat → Int32 := fun k => if 5 ≤ k ∧ k < 5 + j then g k else f k
set_option maxRecDepth 100000 in
set_option maxHeartbeats 4000000 in
theorem ct_X8_told {E : xE} {Po : xPo} {w : xW} {a : Nat} {f : Nat → Int32} (hw : w.1 a = some (tubE f)) {x : Int32} (hp : Po (.inl (some (.int (tldS f x)))) w) : Ct M_X8_told E [.ref a, .int x] w Po := by
  refine Ct.of (ws2 := xAll) (L := [some (.ref a), some (.int x)]) (by decide +kernel) rfl rfl (List.forall_mem_cons.mpr ⟨rfl, List.forall_mem_cons.mpr ⟨rfl, fun _ h => absurd h List.not_mem_nil⟩⟩) (Nat.le_of_ble_eq_true rfl) rfl ?_
  refine r_iload_n (q := 1) dX8_told_0 rfl rfl rfl ?_
  by_cases e0 : x = 0
  · rw [e0]
    refine r_tableIn (off := 39) (q := 40) dX8_told_1 (by decide) (by decide) (by decide) (by decide) ?_
    refine r_aload_n (q := 41) dX8_told_40 rfl rfl rfl ?_
    refine r_getfield (q := 44) dX8_told_41 f_X8_told_7 hw rfl rfl ?_
    refine r_iret dX8_told_44 rfl (Nat.le_of_ble_eq_true rfl) (Nat.le_of_ble_eq_true rfl) ?_
    simpa [tldS, e0] using hp
  by_cases e1 : x = 1
  · rw [e1]
    refine r_tableIn (off := 44) (q := 45) dX8_told_1 (by decide) (by decide) (by decide) (by decide) ?_
    refine r_aload_n (q := 46) dX8_told_45 rfl rfl rfl ?_
    refine r_getfield (q := 49) dX8_told_46 f_X8_told_13 hw rfl rfl ?_
    refine r_iret dX8_told_49 rfl (Nat.le_of_ble_eq_true rfl) (Nat.le_of_ble_eq_true rfl) ?_
    simpa [tldS, e0, e1] using hp
  by_cases e2 : x = 2
  · rw [e2]
    refine r_tableIn (off := 49) (q := 50) dX8_told_1 (by decide) (by decide) (by decide) (by decide) ?_
    refine r_aload_n (q := 51) dX8_told_50 rfl rfl rfl ?_
    refine r_getfield (q := 54) dX8_told_51 f_X8_told_16 hw rfl rfl ?_
    refine r_iret dX8_told_54 rfl (Nat.le_of_ble_eq_true rfl) (Nat.le_of_ble_eq_true rfl) ?_
    simpa [tldS, e0, e1, e2] using hp
  by_cases e3 : x = 3
  · rw [e3]
    refine r_tableIn (off := 54) (q := 55) dX8_told_1 (by decide) (by decide) (by decide) (by decide) ?_
    refine r_aload_n (q := 56) dX8_told_55 rfl rfl rfl ?_
    refine r_getfield (q := 59) dX8_told_56 f_X8_told_19 hw rfl rfl ?_
    refine r_iret dX8_told_59 rfl (Nat.le_of_ble_eq_true rfl) (Nat.le_of_ble_eq_true rfl) ?_
    simpa [tldS, e0, e1, e2, e3] using hp
  by_cases e4 : x = 4
  · rw [e4]
    refine r_tableIn (off := 59) (q := 60) dX8_told_1 (by decide) (by decide) (by decide) (by decide) ?_
    refine r_aload_n (q := 61) dX8_told_60 rfl rfl rfl ?_
    refine r_getfield (q := 64) dX8_told_61 f_X8_told_19 hw rfl rfl ?_
    refine r_if_le (q := 74) (q2 := 67) dX8_told_64 (by decide) rfl (fun h64 => ?_) (fun h64 => ?_)
    · refine r_iconst (q := 75) (v := 0) dX8_told_74 rfl rfl ?_
      refine r_iret dX8_told_75 rfl (Nat.le_of_ble_eq_true rfl) (Nat.le_of_ble_eq_true rfl) ?_
      simpa [tldS, e0, e1, e2, e3, e4, h64] using hp
    · refine r_aload_n (q := 68) dX8_told_67 rfl rfl rfl ?_
      refine r_getfield (q := 71) dX8_told_68 f_X8_told_22 hw rfl rfl ?_
      refine r_goto (q := 75) dX8_told_71 (by decide) ?_
      refine r_iret dX8_told_75 rfl (Nat.le_of_ble_eq_true rfl) (Nat.le_of_ble_eq_true rfl) ?_
      simpa [tldS, e0, e1, e2, e3, e4, h64] using hp
  by_cases e5 : x = 5
  · rw [e5]
    refine r_tableIn (off := 75) (q := 76) dX8_told_1 (by decide) (by decide) (by decide) (by decide) ?_
    refine r_aload_n (q := 77) dX8_told_76 rfl rfl rfl ?_
    refine r_getfield (q := 80) dX8_told_77 f_X8_told_25 hw rfl rfl ?_
    refine r_if_eq (q := 87) (q2 := 83) dX8_told_80 (by decide) rfl (fun h80 => ?_) (fun h80 => ?_)
    · refine r_iconst (q := 88) (v := 0) dX8_told_87 rfl rfl ?_
      refine r_iret dX8_told_88 rfl (Nat.le_of_ble_eq_true rfl) (Nat.le_of_ble_eq_true rfl) ?_
      simpa [tldS, e0, e1, e2, e3, e4, e5, h80, (bb_or (f 5)).resolve_left, *] using hp
    · refine r_iconst (q := 84) (v := 1) dX8_told_83 rfl rfl ?_
      refine r_goto (q := 88) dX8_told_84 (by decide) ?_
      refine r_iret dX8_told_88 rfl (Nat.le_of_ble_eq_true rfl) (Nat.le_of_ble_eq_true rfl) ?_
      simpa [tldS, e0, e1, e2, e3, e4, e5, h80, (bb_or (f 5)).resolve_left, *] using hp
  refine r_tableOut (q := 89) dX8_told_1 (sw_out 5 (by decide) (fun k hk => by rcases (show k = 0 ∨ k = 1 ∨ k = 2 ∨ k = 3 ∨ k = 4 ∨ k = 5 by omega) with rfl | rfl | rfl | rfl | rfl | rfl <;> assumption)) (by decide) ?_
  refine r_aload_n (q := 90) dX8_told_89 rfl rfl rfl ?_
  refine r_getfield (q := 93) dX8_told_90 f_X8_told_29 hw rfl rfl ?_
  refine r_iret dX8_told_93 rfl (Nat.le_of_ble_eq_true rfl) (Nat.le_of_ble_eq_true rfl) ?_
  simpa [tldS, e0, e1, e2, e3, e4, e5] using hp
set_option maxRecDepth 100000 in
set_option maxHeartbeats 4000000 in
theorem lp_X8_tornFrom {E : xE} {Po : xPo} {w0 w : xW} {a : Nat} {f : Nat → Int32} {s0 : Int32} (hw : w.1 a = some (tubE f)) (n : Nat) : ∀ (j : Nat) (hj : j ≤ 8) (hp : Po (.inl (some (.int (tfS (f 2) (8 - j) j)))) w) (hn : 8 - j < n), WF M_X8_tornFrom E Po w0 2 [some (.ref a), some (.int s0), some (.int (nI j))] [] w 0 0 := by
  induction n with
  | zero => intro j hj hp hn; exact absurd hn (Nat.not_lt_zero _)
  | succ n ih =>
    intro j hj hp hn
    refine r_iload_n (q := 3) dX8_tornFrom_2 rfl rfl rfl ?_
    refine r_bipush (q := 5) (v := 8) dX8_tornFrom_3 (by decide) rfl ?_
    refine r_icmp_ge (q := 24) (q2 := 8) dX8_tornFrom_5 (by decide) rfl (fun h5 => ?_) (fun h5 => ?_)
    · have hj8 : 8 ≤ j := (nI_leI (a := 8) (by omega) (by omega)).mp h5
      have e8 : 8 - j = 0 := by omega
      refine r_iconst (q := 25) (v := (-1)) dX8_tornFrom_24 rfl rfl ?_
      refine r_iret dX8_tornFrom_25 rfl (Nat.le_of_ble_eq_true rfl) (Nat.le_of_ble_eq_true rfl) ?_
      first | (rw [e8] at hp; exact hp) | exact hp
    · have hj8 : j < 8 := Nat.not_le.mp (fun z => h5 ((nI_leI (a := 8) (by omega) (by omega)).mpr z))
      obtain ⟨d, e8⟩ : ∃ d, 8 - j = d + 1 := ⟨8 - j - 1, by omega⟩
      refine r_aload_n (q := 9) dX8_tornFrom_8 rfl rfl rfl ?_
      refine r_iload_n (q := 10) dX8_tornFrom_9 rfl rfl rfl ?_
      refine r_callV (q := 13) (ci := 10) (As := [_]) dX8_tornFrom_10 s_X8_tornFrom_42 hw rfl rfl rfl (Nat.le_of_ble_eq_true rfl) rfl rfl rfl (Nat.le_of_ble_eq_true rfl) (Nat.le_of_ble_eq_true rfl) ⟨(Nat.le_of_ble_eq_true rfl), (Nat.le_of_ble_eq_true rfl)⟩ rfl ?_
      refine ct_X8_isTorn hw ?_
      rw [e8] at hp
      unfold tfS at hp
      refine r_if_eq (q := 18) (q2 := 16) dX8_tornFrom_13 (by decide) rfl (fun h13 => ?_) (fun h13 => ?_)
      · have h13b : f 2 >>> (nI j &&& 31) &&& 1 = 0 := by
          by_cases z : f 2 >>> (nI j &&& 31) &&& 1 = 0
          · exact z
          · rw [if_neg z] at h13; exact absurd h13 (by decide)
        rw [if_pos h13b] at hp
        refine r_iinc (q := 21) dX8_tornFrom_18 rfl (Nat.le_of_ble_eq_true rfl) (xone_of rfl) rfl ?_
        rw [show nI j + Int32.ofInt 1 = nI (j + 1) from nI_1 j]
        refine r_goto (q := 2) dX8_tornFrom_21 (by decide) ?_
        exact ih (j + 1) (by omega) (by rw [show 8 - (j + 1) = d by omega]; exact hp) (by omega)
      · have h13b : ¬ f 2 >>> (nI j &&& 31) &&& 1 = 0 := by
          intro z
          rw [if_pos z] at h13; exact h13 rfl
        rw [if_neg h13b] at hp
        refine r_iload_n (q := 17) dX8_tornFrom_16 rfl rfl rfl ?_
        refine r_iret dX8_tornFrom_17 rfl (Nat.le_of_ble_eq_true rfl) (Nat.le_of_ble_eq_true rfl) ?_
        first | (rw [e8] at hp; exact hp) | exact hp
set_option maxRecDepth 100000 in
set_option maxHeartbeats 4000000 in
theorem ct_X8_tornFrom {E : xE} {Po : xPo} {w : xW} {a : Nat} {f : Nat → Int32} {j : Nat} (hw : w.1 a = some (tubE f)) (hj : j ≤ 8) (hp : Po (.inl (some (.int (tfS (f 2) (8 - j) j)))) w) : Ct M_X8_tornFrom E [.ref a, .int (nI j)] w Po := by
  refine Ct.of (ws2 := xAll) (L := [some (.ref a), some (.int (nI j)), none]) (by decide +kernel) rfl rfl (List.forall_mem_cons.mpr ⟨rfl, List.forall_mem_cons.mpr ⟨rfl, fun _ h => absurd h List.not_mem_nil⟩⟩) (Nat.le_of_ble_eq_true rfl) rfl ?_
  refine r_iload_n (q := 1) dX8_tornFrom_0 rfl rfl rfl ?_
  refine r_istore_n (q := 2) dX8_tornFrom_1 rfl (Nat.le_of_ble_eq_true rfl) (xone_of rfl) rfl ?_
  exact lp_X8_tornFrom hw 9 j hj hp (by omega)
set_option maxRecDepth 100000 in
set_option maxHeartbeats 4000000 in
theorem ct_X6_told {E : xE} {Po : xPo} {w : xW} {a g : Nat} {f : Nat → Int32} (hw : w.1 a = some (tntE g f)) (hg : w.1 g = some (gstE E f)) {x : Int32} (hp : Po (.inl (some (.int (tltS f x)))) w) : Ct M_X6_told E [.ref a, .int x] w Po := by
  refine Ct.of (ws2 := xAll) (L := [some (.ref a), some (.int x)]) (by decide +kernel) rfl rfl (List.forall_mem_cons.mpr ⟨rfl, List.forall_mem_cons.mpr ⟨rfl, fun _ h => absurd h List.not_mem_nil⟩⟩) (Nat.le_of_ble_eq_true rfl) rfl ?_
  refine r_iload_n (q := 1) dX6_told_0 rfl rfl rfl ?_
  by_cases e0 : x = 0
  · rw [e0]
    refine r_tableIn (off := 31) (q := 32) dX6_told_1 (by decide) (by decide) (by decide) (by decide) ?_
    refine r_aload_n (q := 33) dX6_told_32 rfl rfl rfl ?_
    refine r_getfield (q := 36) dX6_told_33 f_X6_told_7 hw rfl rfl ?_
    refine r_iret dX6_told_36 rfl (Nat.le_of_ble_eq_true rfl) (Nat.le_of_ble_eq_true rfl) ?_
    simpa [tltS, *] using hp
  by_cases e1 : x = 1
  · rw [e1]
    refine r_tableIn (off := 36) (q := 37) dX6_told_1 (by decide) (by decide) (by decide) (by decide) ?_
    refine r_aload_n (q := 38) dX6_told_37 rfl rfl rfl ?_
    refine r_getfield (q := 41) dX6_told_38 f_X6_told_13 hw rfl rfl ?_
    refine r_iret dX6_told_41 rfl (Nat.le_of_ble_eq_true rfl) (Nat.le_of_ble_eq_true rfl) ?_
    simpa [tltS, *] using hp
  by_cases e2 : x = 2
  · rw [e2]
    refine r_tableIn (off := 41) (q := 42) dX6_told_1 (by decide) (by decide) (by decide) (by decide) ?_
    refine r_aload_n (q := 43) dX6_told_42 rfl rfl rfl ?_
    refine r_getfield (q := 46) dX6_told_43 f_X6_told_16 hw rfl rfl ?_
    refine r_iret dX6_told_46 rfl (Nat.le_of_ble_eq_true rfl) (Nat.le_of_ble_eq_true rfl) ?_
    simpa [tltS, *] using hp
  by_cases e3 : x = 3
  · rw [e3]
    refine r_tableIn (off := 46) (q := 47) dX6_told_1 (by decide) (by decide) (by decide) (by decide) ?_
    refine r_aload_n (q := 48) dX6_told_47 rfl rfl rfl ?_
    refine r_getfield (q := 51) dX6_told_48 f_X6_told_19 hw rfl rfl ?_
    refine r_iret dX6_told_51 rfl (Nat.le_of_ble_eq_true rfl) (Nat.le_of_ble_eq_true rfl) ?_
    simpa [tltS, *] using hp
  refine r_tableOut (q := 52) dX6_told_1 (sw_out 3 (by decide) (fun k hk => by rcases (show k = 0 ∨ k = 1 ∨ k = 2 ∨ k = 3 by omega) with rfl | rfl | rfl | rfl <;> assumption)) (by decide) ?_
  refine r_aload_n (q := 53) dX6_told_52 rfl rfl rfl ?_
  refine r_getfield (q := 56) dX6_told_53 f_X6_told_22 hw rfl rfl ?_
  refine r_iret dX6_told_56 rfl (Nat.le_of_ble_eq_true rfl) (Nat.le_of_ble_eq_true rfl) ?_
  simpa [tltS, *] using hp
set_option maxRecDepth 100000 in
set_option maxHeartbeats 4000000 in
theorem ct_X6_guestAt {E : xE} {Po : xPo} {w : xW} {a g : Nat} {f : Nat → Int32} (hw : w.1 a = some (tntE g f)) (hg : w.1 g = some (gstE E f)) {x : Int32} (hp : Po (.inl (some (.int (gAtS f x)))) w) : Ct M_X6_guestAt E [.ref a, .int x] w Po := by
  refine Ct.of (ws2 := xAll) (L := [some (.ref a), some (.int x)]) (by decide +kernel) rfl rfl (List.forall_mem_cons.mpr ⟨rfl, List.forall_mem_cons.mpr ⟨rfl, fun _ h => absurd h List.not_mem_nil⟩⟩) (Nat.le_of_ble_eq_true rfl) rfl ?_
  refine r_iload_n (q := 1) dX6_guestAt_0 rfl rfl rfl ?_
  refine r_if_lt (q := 27) (q2 := 4) dX6_guestAt_1 (by decide) rfl (fun h1 => ?_) (fun h1 => ?_)
  · refine r_iconst (q := 28) (v := (-1)) dX6_guestAt_27 rfl rfl ?_
    refine r_iret dX6_guestAt_28 rfl (Nat.le_of_ble_eq_true rfl) (Nat.le_of_ble_eq_true rfl) ?_
    first | (unfold gAtS at hp; rw [if_pos (Or.inl h1)] at hp; exact hp) | (unfold gAtS at hp; rw [if_pos (Or.inr (Or.inl h9))] at hp; exact hp) | (unfold gAtS at hp; rw [if_pos (Or.inr (Or.inr h15))] at hp; exact hp) | (unfold gAtS at hp; rw [if_neg (fun z => z.elim h1 (fun z => z.elim h9 h15)), nI_cl (by omega)] at hp; show Po (.inl (some (.int (if j < 6 then f (5 + j) else 0)))) w; rw [if_pos hj]; exact hp)
  · refine r_iload_n (q := 5) dX6_guestAt_4 rfl rfl rfl ?_
    refine r_aload_n (q := 6) dX6_guestAt_5 rfl rfl rfl ?_
    refine r_getfield (q := 9) dX6_guestAt_6 f_X6_guestAt_19 hw rfl rfl ?_
    refine r_icmp_ge (q := 27) (q2 := 12) dX6_guestAt_9 (by decide) rfl (fun h9 => ?_) (fun h9 => ?_)
    · refine r_iconst (q := 28) (v := (-1)) dX6_guestAt_27 rfl rfl ?_
      refine r_iret dX6_guestAt_28 rfl (Nat.le_of_ble_eq_true rfl) (Nat.le_of_ble_eq_true rfl) ?_
      first | (unfold gAtS at hp; rw [if_pos (Or.inl h1)] at hp; exact hp) | (unfold gAtS at hp; rw [if_pos (Or.inr (Or.inl h9))] at hp; exact hp) | (unfold gAtS at hp; rw [if_pos (Or.inr (Or.inr h15))] at hp; exact hp) | (unfold gAtS at hp; rw [if_neg (fun z => z.elim h1 (fun z => z.elim h9 h15)), nI_cl (by omega)] at hp; show Po (.inl (some (.int (if j < 6 then f (5 + j) else 0)))) w; rw [if_pos hj]; exact hp)
    · refine r_iload_n (q := 13) dX6_guestAt_12 rfl rfl rfl ?_
      refine r_bipush (q := 15) (v := 6) dX6_guestAt_13 (by decide) rfl ?_
      refine r_icmp_ge (q := 27) (q2 := 18) dX6_guestAt_15 (by decide) rfl (fun h15 => ?_) (fun h15 => ?_)
      · refine r_iconst (q := 28) (v := (-1)) dX6_guestAt_27 rfl rfl ?_
        refine r_iret dX6_guestAt_28 rfl (Nat.le_of_ble_eq_true rfl) (Nat.le_of_ble_eq_true rfl) ?_
        first | (unfold gAtS at hp; rw [if_pos (Or.inl h1)] at hp; exact hp) | (unfold gAtS at hp; rw [if_pos (Or.inr (Or.inl h9))] at hp; exact hp) | (unfold gAtS at hp; rw [if_pos (Or.inr (Or.inr h15))] at hp; exact hp) | (unfold gAtS at hp; rw [if_neg (fun z => z.elim h1 (fun z => z.elim h9 h15)), nI_cl (by omega)] at hp; show Po (.inl (some (.int (if j < 6 then f (5 + j) else 0)))) w; rw [if_pos hj]; exact hp)
      · obtain ⟨j, hj, rfl⟩ := ixOf (n := 6) (by decide) h1 h15
        refine r_aload_n (q := 19) dX6_guestAt_18 rfl rfl rfl ?_
        refine r_getfield (q := 22) dX6_guestAt_19 f_X6_guestAt_25 hw rfl rfl ?_
        refine r_iload_n (q := 23) dX6_guestAt_22 rfl rfl rfl ?_
        refine r_iaload (q := 24) dX6_guestAt_23 hg (vp_in_nI hj (by decide)) rfl ?_
        rw [nI_cl (by omega)]
        refine r_goto (q := 28) dX6_guestAt_24 (by decide) ?_
        refine r_iret dX6_guestAt_28 rfl (Nat.le_of_ble_eq_true rfl) (Nat.le_of_ble_eq_true rfl) ?_
        first | (unfold gAtS at hp; rw [if_pos (Or.inl h1)] at hp; exact hp) | (unfold gAtS at hp; rw [if_pos (Or.inr (Or.inl h9))] at hp; exact hp) | (unfold gAtS at hp; rw [if_pos (Or.inr (Or.inr h15))] at hp; exact hp) | (unfold gAtS at hp; rw [if_neg (fun z => z.elim h1 (fun z => z.elim h9 h15)), nI_cl (by omega)] at hp; show Po (.inl (some (.int (if j < 6 then f (5 + j) else 0)))) w; rw [if_pos hj]; exact hp)
set_option maxRecDepth 100000 in
set_option maxHeartbeats 4000000 in
theorem lp_X6_awaits {E : xE} {Po : xPo} {w0 w : xW} {a g m : Nat} {f : Nat → Int32} {x : Int32} (hw : w.1 a = some (tntE g f)) (hg : w.1 g = some (gstE E f)) (hm : f 4 = nI m) (hm2 : m < 2147483648) (n : Nat) : ∀ (j : Nat) (hj : j ≤ m) (hp : Po (.inl (some (.int (awS f x (m - j) j)))) w) (hn : m - j < n), WF M_X6_awaits E Po w0 2 [some (.ref a), some (.int x), some (.int (nI j))] [] w 0 0 := by
  induction n with
  | zero => intro j hj hp hn; exact absurd hn (Nat.not_lt_zero _)
  | succ n ih =>
    intro j hj hp hn
    refine r_iload_n (q := 3) dX6_awaits_2 rfl rfl rfl ?_
    refine r_aload_n (q := 4) dX6_awaits_3 rfl rfl rfl ?_
    refine r_getfield (q := 7) dX6_awaits_4 f_X6_awaits_19 hw rfl rfl ?_
    rw [hm]
    refine r_icmp_ge (q := 27) (q2 := 10) dX6_awaits_7 (by decide) rfl (fun h7 => ?_) (fun h7 => ?_)
    · have hj8 : m ≤ j := (nI_leI (by omega) (by omega)).mp h7
      have e8 : m - j = 0 := by omega
      refine r_iconst (q := 28) (v := 0) dX6_awaits_27 rfl rfl ?_
      refine r_zret dX6_awaits_28 rfl (by decide) (Nat.le_of_ble_eq_true rfl) (Nat.le_of_ble_eq_true rfl) ?_
      first | (rw [e8] at hp; exact hp) | exact hp
    · have hj8 : j < m := Nat.not_le.mp (fun z => h7 ((nI_leI (by omega) (by omega)).mpr z))
      obtain ⟨d, e8⟩ : ∃ d, m - j = d + 1 := ⟨m - j - 1, by omega⟩
      refine r_aload_n (q := 11) dX6_awaits_10 rfl rfl rfl ?_
      refine r_iload_n (q := 12) dX6_awaits_11 rfl rfl rfl ?_
      refine r_callV (q := 15) (ci := 8) (As := [_]) dX6_awaits_12 s_X6_awaits_29 hw rfl rfl rfl (Nat.le_of_ble_eq_true rfl) rfl rfl rfl (Nat.le_of_ble_eq_true rfl) (Nat.le_of_ble_eq_true rfl) ⟨(Nat.le_of_ble_eq_true rfl), (Nat.le_of_ble_eq_true rfl)⟩ rfl ?_
      refine ct_X6_guestAt hw hg ?_
      rw [e8] at hp
      unfold awS at hp
      refine r_iload_n (q := 16) dX6_awaits_15 rfl rfl rfl ?_
      refine r_icmp_ne (q := 21) (q2 := 19) dX6_awaits_16 (by decide) rfl (fun h16 => ?_) (fun h16 => ?_)
      · rw [if_neg h16] at hp
        refine r_iinc (q := 24) dX6_awaits_21 rfl (Nat.le_of_ble_eq_true rfl) (xone_of rfl) rfl ?_
        rw [show nI j + Int32.ofInt 1 = nI (j + 1) from nI_1 j]
        refine r_goto (q := 2) dX6_awaits_24 (by decide) ?_
        exact ih (j + 1) (by omega) (by rw [show m - (j + 1) = d by omega]; exact hp) (by omega)
      · rw [if_pos h16] at hp
        refine r_iconst (q := 20) (v := 1) dX6_awaits_19 rfl rfl ?_
        refine r_zret dX6_awaits_20 rfl (by decide) (Nat.le_of_ble_eq_true rfl) (Nat.le_of_ble_eq_true rfl) ?_
        first | (rw [e8] at hp; exact hp) | exact hp
set_option maxRecDepth 100000 in
set_option maxHeartbeats 4000000 in
theorem ct_X6_awaits {E : xE} {Po : xPo} {w : xW} {a g m : Nat} {f : Nat → Int32} {x : Int32} (hw : w.1 a = some (tntE g f)) (hg : w.1 g = some (gstE E f)) (hm : f 4 = nI m) (hm2 : m < 2147483648) (hp : Po (.inl (some (.int (awS f x m 0)))) w) : Ct M_X6_awaits E [.ref a, .int x] w Po := by
  refine Ct.of (ws2 := xAll) (L := [some (.ref a), some (.int x), none]) (by decide +kernel) rfl rfl (List.forall_mem_cons.mpr ⟨rfl, List.forall_mem_cons.mpr ⟨rfl, fun _ h => absurd h List.not_mem_nil⟩⟩) (Nat.le_of_ble_eq_true rfl) rfl ?_
  refine r_iconst (q := 1) (v := 0) dX6_awaits_0 rfl rfl ?_
  refine r_istore_n (q := 2) dX6_awaits_1 rfl (Nat.le_of_ble_eq_true rfl) (xone_of rfl) rfl ?_
  exact lp_X6_awaits hw hg hm hm2 (m + 1) 0 (Nat.zero_le _) (by simpa using hp) (by omega)
