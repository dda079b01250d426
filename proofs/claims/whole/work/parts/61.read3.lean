/-! ===== 61.read3: the faults of a text, and its commands carried out, on both sides ===== -/
theorem wb_0 : ∀ i, i < 9 → (xByt.getD (28 + i) []).getD 0 0 ≠ -1 := by decide +kernel
theorem fi_0 {f : Nat → Int32} {n p i : Nat} (hn : n ≤ 60) (hp : p < 1000) (h : n ≤ p) (hi : i < 9) : fiS f (nI n) (nI p) (28 + i) = 0 := by
  obtain ⟨l, hl⟩ : ∃ l, xLen.getD (28 + i) 0 = l + 1 := ⟨xLen.getD (28 + i) 0 - 1, by have := wl_ok i hi; omega⟩
  unfold fiS
  rw [hl]
  show (if sgS f (nI n) (nI p + nI 0) = (xByt.getD (28 + i) []).getD 0 0 then _ else 0) = 0
  rw [nI_a2, sg_at hn (show p + 0 < 1000 by omega), if_neg (show ¬ p + 0 < n by omega), if_neg (fun q => wb_0 i hi q.symm)]
theorem rk_0 {F : Nat → Nat} (hF : ∀ i, i < 9 → F i = 0) : ∀ (z i : Nat), i + z ≤ 9 → rkF F z i 0 none = (0, none)
  | 0, _, _ => rfl
  | z + 1, i, h => by
    have w := wl_ok i (by omega)
    unfold rkF
    rw [hF i (by omega), if_neg (Nat.lt_irrefl 0), if_neg (by omega)]
    exact rk_0 hF z (i + 1) (by omega)
theorem rc_end {f com : Nat → Int32} {n p k : Nat} (hn : n ≤ 60) (hp : p < 1000) (h : n ≤ p) : rcM f n p k com = (p, 1, k, com) := by
  have e : rkS f n p = (0, none) := rk_0 (F := fun i => fiS f (nI n) (nI p) (28 + i)) (fun i hi => fi_0 hn hp h hi) 9 0 (by decide)
  unfold rcM
  rw [e]
  rfl
theorem rc_keep {f com : Nat → Int32} {n p k j : Nat} (h : j < 3 * k) : (rcM f n p k com).2.2.2 j = com j := by
  have h3 : ∀ (c : Nat) (x : Int32 × Nat × Int32), (rc3M f n c k com x).2.2.2 j = com j := fun c x => by
    unfold rc3M
    split
    · exact (upd_o (by omega)).trans ((upd_o (by omega)).trans (upd_o (by omega)))
    · exact (upd_o (by omega)).trans (upd_o (by omega))
  unfold rcM
  split
  · rfl
  · unfold rc2M
    split
    · exact h3 _ _
    · exact h3 _ _
theorem rd_keep {f : Nat → Int32} {n : Nat} : ∀ (z : Nat) (s : mSt) (j : Nat), j < 3 * s.2.2.1 → (rdM f n z s).2.2.2 j = s.2.2.2 j
  | 0, _, _, _ => rfl
  | z + 1, s, j, h => by
    unfold rdM
    split
    · obtain ⟨-, -, q⟩ := rcM_ok (f := f) (n := n) (p := s.1 + 1) (k := s.2.2.1) (com := s.2.2.2)
      rw [rd_keep z _ j (by omega)]
      exact rc_keep h
    · rfl
theorem rd_k {f : Nat → Int32} {n : Nat} : ∀ (z : Nat) (s : mSt), s.2.2.1 ≤ (rdM f n z s).2.2.1 ∧ (rdM f n z s).2.2.1 ≤ s.2.2.1 + z
  | 0, _ => ⟨Nat.le_refl _, Nat.le_refl _⟩
  | z + 1, s => by
    unfold rdM
    split
    · obtain ⟨-, -, q⟩ := rcM_ok (f := f) (n := n) (p := s.1 + 1) (k := s.2.2.1) (com := s.2.2.2)
      obtain ⟨a, b⟩ := rd_k (f := f) (n := n) z (rcM f n (s.1 + 1) s.2.2.1 s.2.2.2)
      exact ⟨by omega, by omega⟩
    · exact ⟨Nat.le_refl _, by omega⟩
theorem ff_e {f : Nat → Int32} {n : Nat} (hn : n ≤ 60) : ∀ (z z' p k : Nat) (c : Nat → Int32) (m : Nat) (com : Nat → Int32), c 0 = nI n → c 1 = nI p → 60 ≤ z + p → p ≤ n → n < z' + p → (ffF f z c m).2.1 0 = nI n ∧ (((ffF f z c m).1 < 0 ∧ (rdM f n z' (rcM f n p k com)).2.1 = 0 ∧ n ≤ (rdM f n z' (rcM f n p k com)).1) ∨ ((ffF f z c m).1 = nI (rdM f n z' (rcM f n p k com)).1 ∧ ¬ ((rdM f n z' (rcM f n p k com)).2.1 = 0 ∧ n ≤ (rdM f n z' (rcM f n p k com)).1) ∧ (rdM f n z' (rcM f n p k com)).1 < 1000)) := by
  intro z
  induction z with
  | zero =>
    intro z' p k c m com h0 h1 hz hpn hz'
    rw [rc_end hn (by omega) (by omega), rd_not (fun q => absurd q.1 (by decide : ¬ (1 : Int32) = 0))]
    exact ⟨h0, Or.inr ⟨h1, fun q => absurd q.1 (by decide : ¬ (1 : Int32) = 0), by show p < 1000; omega⟩⟩
  | succ z ih =>
    intro z' p k c m com h0 h1 hz hpn hz'
    obtain ⟨a0, a1, a⟩ := rc_e (m := m) (k := k) (com := com) hn (show p < 100 by omega) h0 h1
    obtain ⟨q1, q2, -⟩ := rcM_ok (f := f) (n := n) (p := p) (k := k) (com := com)
    unfold ffF ff1
    generalize rcS f c m = R at a0 a1 a ⊢
    generalize rcM f n p k com = S at a0 a1 a q1 q2 ⊢
    rcases a with ⟨b1, b2⟩ | ⟨b1, b2, -⟩
    · rw [if_pos b1, rd_not (fun q => absurd (b2.symm.trans q.1) (by decide : ¬ (1 : Int32) = 0))]
      exact ⟨a0, Or.inr ⟨a1, fun q => absurd (b2.symm.trans q.1) (by decide : ¬ (1 : Int32) = 0), by omega⟩⟩
    · rw [if_neg (show ¬ R.1 = 0 by rw [b1]; decide)]
      by_cases hl : S.1 < n
      · rw [if_pos (show R.2.1 1 < R.2.1 0 by rw [a0, a1]; exact nI_lt hl (by omega))]
        rcases ac_c (f := f) (x := 59) hn (show S.1 < 1000 by omega) a0 a1 (by decide) with ⟨hh, e⟩ | ⟨hh, e⟩
        · rw [e, if_neg (show ¬ ((1 : Int32), upd R.2.1 1 (nI (S.1 + 1))).1 = 0 from (by decide : ¬ (1 : Int32) = 0))]
          obtain ⟨w, rfl⟩ : ∃ w, z' = w + 1 := ⟨z' - 1, by omega⟩
          rw [show rdM f n (w + 1) S = rdM f n w (rcM f n (S.1 + 1) S.2.2.1 S.2.2.2) from if_pos ⟨b2, hh⟩]
          exact ih w (S.1 + 1) S.2.2.1 (upd R.2.1 1 (nI (S.1 + 1))) R.2.2 S.2.2.2 (by rw [upd_o (by decide)]; exact a0) upd_s (by omega) (by omega) (by omega)
        · rw [e, if_pos (show ((0 : Int32), R.2.1).1 = 0 from rfl), rd_not (fun q => hh q.2)]
          exact ⟨a0, Or.inr ⟨a1, fun q => by have := q.2; omega, by omega⟩⟩
      · rw [if_neg (show ¬ R.2.1 1 < R.2.1 0 by rw [a0, a1]; exact fun y => hl (nI_nlt' (by omega) (by omega) y)), rd_not (fun q => hl q.2.1)]
        exact ⟨a0, Or.inl ⟨m1, b2, by omega⟩⟩
theorem mDo_b {d : xCo} {m : Nat} {a b b2 : Int32} (h : ¬ (m = 0 ∨ m = 2 ∨ m = 5)) : mDo d m a b = mDo d m a b2 := by
  have h0 : m ≠ 0 := fun z => h (Or.inl z)
  have h2 : m ≠ 2 := fun z => h (Or.inr (Or.inl z))
  have h5 : m ≠ 5 := fun z => h (Or.inr (Or.inr z))
  unfold mDo
  rw [if_neg h0, if_neg h0, if_neg h2, if_neg h2, if_neg h5, if_neg h5]
theorem rd_ok {f : Nat → Int32} {n : Nat} (hn : n ≤ 60) : ∀ (z' p k : Nat) (com : Nat → Int32) (S9 : mSt), p ≤ n → rdM f n z' (rcM f n p k com) = S9 → S9.2.1 = 0 → ∀ i, k ≤ i → i < S9.2.2.1 → ∃ q, q < 9 ∧ S9.2.2.2 (3 * i) = nI q := by
  intro z'
  induction z' with
  | zero =>
    intro p k com S9 hpn hS hw i h1 h2
    obtain ⟨-, -, a⟩ := rc_e (f := f) (c := upd (upd (fun _ => 0) 0 (nI n)) 1 (nI p)) (m := 0) (k := k) (com := com) hn (show p < 100 by omega) ((upd_o (by decide)).trans upd_s) upd_s
    have e : rcM f n p k com = S9 := hS
    rw [e] at a
    rcases a with ⟨-, b2⟩ | ⟨-, b2, b3, b4, b5, -⟩
    · rw [hw] at b2; exact absurd b2 (by decide)
    · obtain rfl : i = k := by omega
      exact ⟨_, b3, b5⟩
  | succ z' ih =>
    intro p k com S9 hpn hS hw i h1 h2
    obtain ⟨-, -, a⟩ := rc_e (f := f) (c := upd (upd (fun _ => 0) 0 (nI n)) 1 (nI p)) (m := 0) (k := k) (com := com) hn (show p < 100 by omega) ((upd_o (by decide)).trans upd_s) upd_s
    generalize rcM f n p k com = S at a hS
    by_cases hh : S.2.1 = 0 ∧ hereS f n S.1 59 59
    · rcases a with ⟨-, b2⟩ | ⟨-, b2, b3, b4, b5, -⟩
      · rw [hh.1] at b2; exact absurd b2 (by decide)
      · have e : rdM f n z' (rcM f n (S.1 + 1) S.2.2.1 S.2.2.2) = S9 := by rw [← hS]; exact (if_pos hh).symm
        have hl := hh.2.1
        by_cases q : i < k + 1
        · obtain rfl : i = k := by omega
          refine ⟨_, b3, ?_⟩
          rw [← e, rd_keep z' _ _ (by have := (rcM_ok (f := f) (n := n) (p := S.1 + 1) (k := S.2.2.1) (com := S.2.2.2)).2.2; omega), rc_keep (by omega)]
          exact b5
        · exact ih (S.1 + 1) S.2.2.1 S.2.2.2 S9 (by omega) e hw i (by omega) h2
    · rw [rd_not hh] at hS
      rw [hS] at a
      rcases a with ⟨-, b2⟩ | ⟨-, b2, b3, b4, b5, -⟩
      · rw [hw] at b2; exact absurd b2 (by decide)
      · obtain rfl : i = k := by omega
        exact ⟨_, b3, b5⟩
/-- commands carried out on both sides -/
theorem co_e {f : Nat → Int32} {n : Nat} (hn : n ≤ 60) : ∀ (z' z K0 p k : Nat) (c : Nat → Int32) (m : Nat) (com : Nat → Int32) (cc d : xCo) (S9 : mSt), c 0 = nI n → c 1 = nI p → p ≤ n → 60 ≤ z + p → R9 cc d → J9 K0 cc → UD d → K0 + 240 * (z + 1) < 16000000 → rdM f n z' (rcM f n p k com) = S9 → S9.2.1 = 0 → n ≤ S9.1 →
    k < S9.2.2.1 ∧ (∀ N, okR N S9.2.2.2 (S9.2.2.1 - k) k d) ∧
    (((runM S9.2.2.2 (S9.2.2.1 - k) k d).1 = true ∧ (coF f z k c m cc).1 = nI S9.2.2.1 ∧ R9 (coF f z k c m cc).2.2.2 (runM S9.2.2.2 (S9.2.2.1 - k) k d).2 ∧ J9 (K0 + 240 * (z + 1)) (coF f z k c m cc).2.2.2 ∧ UD (runM S9.2.2.2 (S9.2.2.1 - k) k d).2 ∧ KR cc (coF f z k c m cc).2.2.2 ∧ KR d (runM S9.2.2.2 (S9.2.2.1 - k) k d).2) ∨
     ((runM S9.2.2.2 (S9.2.2.1 - k) k d).1 = false ∧ (coF f z k c m cc).1 = -1 ∧ ∃ (a b : Int32) (c2 d2 : xCo), (coF f z k c m cc).2.2.2 = cR c2 a b ∧ (runM S9.2.2.2 (S9.2.2.1 - k) k d).2 = cR d2 a b)) := by
  intro z'
  induction z' using Nat.strongRecOn with
  | ind z' ih =>
    intro z K0 p k c m com cc d S9 h0 h1 hpn hz R J U hK hS hw hl
    have hRC := rc_e (f := f) (m := m) (k := k) (com := com) hn (show p < 100 by omega) h0 h1
    obtain ⟨a0, a1, a⟩ := id hRC
    obtain ⟨q1, q2, -⟩ := rcM_ok (f := f) (n := n) (p := p) (k := k) (com := com)
    have hpl : p < n := by
      rcases Nat.lt_or_ge p n with y | y
      · exact y
      · rw [rc_end hn (by omega) y, rd_not (fun q => absurd q.1 (by decide : ¬ (1 : Int32) = 0))] at hS
        rw [← hS] at hw
        exact absurd hw (by decide : ¬ (1 : Int32) = 0)
    obtain ⟨z, rfl⟩ : ∃ w, z = w + 1 := ⟨z - 1, by omega⟩
    have hK0 : K0 < 16000000 := Nat.lt_of_le_of_lt (Nat.le_add_right _ _) hK
    have hK1 : K0 + 240 < 16000000 := Nat.lt_of_le_of_lt (Nat.add_le_add_left (Nat.le_mul_of_pos_right 240 (Nat.succ_pos _)) _) hK
    have hK2 : K0 + 240 + 240 * (z + 1) < 16000000 := by
      have e : K0 + 240 + 240 * (z + 1) = K0 + 240 * (z + 1 + 1) := by rw [Nat.mul_succ 240 (z + 1), Nat.add_assoc, Nat.add_comm 240]
      rw [e]; exact hK
    rw [coF]
    generalize rcS f c m = Rr at a0 a1 a ⊢
    generalize rcM f n p k com = S at a0 a1 a q1 q2 hS ⊢
    rcases a with ⟨b1, b2⟩ | ⟨b1, b2, b3, b4, b5, b6, b7, -⟩
    · rw [rd_not (fun q => absurd (b2.symm.trans q.1) (by decide : ¬ (1 : Int32) = 0))] at hS
      rw [← hS, b2] at hw
      exact absurd hw (by decide)
    · rw [if_neg (show ¬ Rr.1 = 0 by rw [b1]; decide)]
      have kp : ∀ j, j < 3 * (k + 1) → S9.2.2.2 j = S.2.2.2 j := fun j hj => by
        rw [← hS]; exact rd_keep z' S j (by omega)
      have kk : k + 1 ≤ S9.2.2.1 := by
        have := (rd_k (f := f) (n := n) z' S).1
        rw [hS] at this; omega
      have ed : mDk S9.2.2.2 k d = mDo d Rr.2.2 (Rr.2.1 2) (Rr.2.1 3) := by
        unfold mDk
        rw [kp _ (by omega), kp _ (by omega), kp _ (by omega), b5, b6, nI_cl (by omega)]
        by_cases q : Rr.2.2 = 0 ∨ Rr.2.2 = 2 ∨ Rr.2.2 = 5
        · rw [b7 q]
        · exact mDo_b q
      have hsim := sim_do (m := Rr.2.2) (a := Rr.2.1 2) (b := Rr.2.1 3) R J hK1
      have hud := ud_do (m := Rr.2.2) (a := Rr.2.1 2) (b := Rr.2.1 3) R J hK0 U
      have hk1 := kr_ocS (c := cc) (m := Rr.2.2) (t := Rr.2.1 2) (s := Rr.2.1 3)
      have hk2 := kr_mDo (d := d) (m := Rr.2.2) (t := Rr.2.1 2) (s := Rr.2.1 3)
      obtain ⟨y, hy⟩ : ∃ y, S9.2.2.1 - k = y + 1 := ⟨S9.2.2.1 - k - 1, by omega⟩
      rw [hy]
      have hin : inP d ∧ ∃ N, inH d N := ⟨inP_of R J U, _, inH_of R J U⟩
      have ho : ∀ N, okR N S9.2.2.2 (y + 1) k d = (inP d ∧ (∃ N, inH d N) ∧ ((mDo d Rr.2.2 (Rr.2.1 2) (Rr.2.1 3)).1 = 0 → okR N S9.2.2.2 y (k + 1) (mDo d Rr.2.2 (Rr.2.1 2) (Rr.2.1 3)).2.2)) := fun N => by rw [okR, ed]
      have hr : runM S9.2.2.2 (y + 1) k d = if (mDo d Rr.2.2 (Rr.2.1 2) (Rr.2.1 3)).1 = 0 then runM S9.2.2.2 y (k + 1) (mDo d Rr.2.2 (Rr.2.1 2) (Rr.2.1 3)).2.2 else (false, if (mDo d Rr.2.2 (Rr.2.1 2) (Rr.2.1 3)).1 = -1 then (mDo d Rr.2.2 (Rr.2.1 2) (Rr.2.1 3)).2.2 else cR (mDo d Rr.2.2 (Rr.2.1 2) (Rr.2.1 3)).2.2 20 (nI k)) := by rw [runM, ed]
      rw [hr]
      generalize ocS Rr.2.2 (Rr.2.1 2) (Rr.2.1 3) cc = r at hsim hk1 ⊢
      generalize mDo d Rr.2.2 (Rr.2.1 2) (Rr.2.1 3) = P at hsim hud hk2 ho ⊢
      by_cases tz : P.1 = 0
      · obtain ⟨v, tv, ev, t3, t4⟩ : ∃ v, v < 2147483000 ∧ r.1 = nI v ∧ R9 r.2 P.2.2 ∧ J9 (K0 + 240) r.2 := by
          rcases hsim with ⟨-, -, ⟨v, tv, ev⟩, t3, t4⟩ | ⟨t1, -⟩ | ⟨t1, -⟩ | ⟨t1, -⟩
          · exact ⟨v, tv, ev, t3, t4⟩
          all_goals
            rw [tz] at t1
            exact absurd t1 (by decide)
        have kr1 : KR cc r.2 := hk1 (by rw [ev]; exact nI_m1 (by omega))
        have kr2 : KR d P.2.2 := hk2 tz
        rw [if_pos tz, if_neg (show ¬ r.1 < 0 by rw [ev]; exact nI_pos (by omega))]
        by_cases hh : hereS f n S.1 59 59
        · have hz0 : z' ≠ 0 := fun q => by
            subst q
            have e : S = S9 := hS
            rw [← e] at hl
            have := hh.1; omega
          obtain ⟨w, rfl⟩ : ∃ w, z' = w + 1 := ⟨z' - 1, by omega⟩
          rw [show rdM f n (w + 1) S = rdM f n w (rcM f n (S.1 + 1) S.2.2.1 S.2.2.2) from if_pos ⟨b2, hh⟩, b4] at hS
          have eac : acS f Rr.2.1 59 = (1, upd Rr.2.1 1 (nI (S.1 + 1))) := by
            rcases ac_c (f := f) (x := 59) hn (show S.1 < 1000 by omega) a0 a1 (by decide) with ⟨-, e⟩ | ⟨hq, -⟩
            · exact e
            · exact absurd hh hq
          rw [eac]
          have hS1 : S.1 < n := hh.1
          obtain ⟨i1, i3, i4⟩ := ih w (by omega) z (K0 + 240) (S.1 + 1) (k + 1) (upd Rr.2.1 1 (nI (S.1 + 1))) Rr.2.2 S.2.2.2 r.2 P.2.2 S9 (by rw [upd_o (by decide)]; exact a0) upd_s (by omega) (by omega) t3 t4 hud hK2 hS hw hl
          rw [show S9.2.2.1 - (k + 1) = y by omega] at i3 i4
          refine ⟨by omega, fun N => by rw [ho]; exact ⟨hin.1, hin.2, fun _ => i3 N⟩, ?_⟩
          rcases i4 with ⟨u1, u2, u3, u4, u5, u6, u7⟩ | u
          · exact Or.inl ⟨u1, u2, u3, u4.mono (by omega), u5, ⟨u6.1.trans kr1.1, u6.2.trans kr1.2⟩, ⟨u7.1.trans kr2.1, u7.2.trans kr2.2⟩⟩
          · exact Or.inr u
        · rw [rd_not (fun q => hh q.2)] at hS
          subst hS
          have hy0 : y = 0 := by omega
          subst hy0
          have eac : acS f Rr.2.1 59 = (0, Rr.2.1) := by
            rcases ac_c (f := f) (x := 59) hn (show S.1 < 1000 by omega) a0 a1 (by decide) with ⟨hq, -⟩ | ⟨-, e⟩
            · exact absurd hq hh
            · exact e
          rw [eac]
          have ec : coF f z (k + 1) Rr.2.1 Rr.2.2 r.2 = (nI (k + 1), (coF f z (k + 1) Rr.2.1 Rr.2.2 r.2).2.1, (coF f z (k + 1) Rr.2.1 Rr.2.2 r.2).2.2.1, r.2) := by
            cases z with
            | zero => rfl
            | succ z =>
              obtain ⟨-, -, g⟩ := rc_e (f := f) (m := Rr.2.2) (k := k + 1) (com := com) hn (show S.1 < 100 by omega) a0 a1
              rw [rc_end hn (by omega) hl] at g
              have g0 : (rcS f Rr.2.1 Rr.2.2).1 = 0 := by
                rcases g with ⟨g, -⟩ | ⟨-, g, -⟩
                · exact g
                · exact absurd g (by decide : ¬ (1 : Int32) = 0)
              rw [coF, if_pos g0]
          show _ ∧ _ ∧ ((true = true ∧ (coF f z (k + 1) Rr.2.1 Rr.2.2 r.2).1 = nI S.2.2.1 ∧ R9 (coF f z (k + 1) Rr.2.1 Rr.2.2 r.2).2.2.2 P.2.2 ∧ J9 _ (coF f z (k + 1) Rr.2.1 Rr.2.2 r.2).2.2.2 ∧ UD P.2.2 ∧ KR cc (coF f z (k + 1) Rr.2.1 Rr.2.2 r.2).2.2.2 ∧ KR d P.2.2) ∨ _)
          rw [ec]
          refine ⟨by omega, fun N => by rw [ho]; exact ⟨hin.1, hin.2, fun _ => trivial⟩, Or.inl ⟨rfl, by rw [b4], t3, t4.mono (by omega), hud, kr1, kr2⟩⟩
      · have hf : r.1 < 0 ∧ ∃ (a b : Int32) (c2 d2 : xCo), (if r.1 = -1 then r.2 else cR r.2 20 (nI k)) = cR c2 a b ∧ (if P.1 = -1 then P.2.2 else cR P.2.2 20 (nI k)) = cR d2 a b := by
          rcases hsim with ⟨t1, -⟩ | ⟨t1, t2, ta, tb, tn, t3, t4⟩ | ⟨t1, t2, t3, t4⟩ | ⟨t1, t2, t3, t4⟩
          · exact absurd t1 tz
          · refine ⟨by rw [t2]; decide, ta, tb, cc, d, ?_, ?_⟩
            · rw [if_pos t2]; exact t3
            · rw [if_pos t1]; exact t4
          · refine ⟨by rw [t2]; decide, 20, nI k, r.2, P.2.2, ?_, ?_⟩
            · rw [if_neg (by rw [t2]; decide)]
            · rw [if_neg (by rw [t1]; decide)]
          · refine ⟨by rw [t2]; decide, 20, nI k, r.2, P.2.2, ?_, ?_⟩
            · rw [if_neg (by rw [t2]; decide)]
            · rw [if_neg (by rw [t1]; decide)]
        rw [if_neg tz, if_pos hf.1]
        exact ⟨by omega, fun N => by rw [ho]; exact ⟨hin.1, hin.2, fun q => absurd q tz⟩, Or.inr ⟨rfl, rfl, hf.2⟩⟩
