/-! ===== 65.pairs3: lines, bathing ahead, reading, of both ===== -/
theorem lineL_len {d : xCo} {u : Nat} : (lineL d u).length ≤ 60 := by
  have a1 := digs_len (a := u)
  have b37 : (byts 37).length ≤ 8 := by decide +kernel
  have b38 : (byts 38).length ≤ 20 := by decide +kernel
  have b43 : (byts 43).length ≤ 5 := by decide +kernel
  have b44 : (byts 44).length ≤ 5 := by decide +kernel
  have t1 : (if 0 ≤ d.2.2.1 u 1 then tubL d (d.2.2.1 u 1).toNatClampNeg else byts 38).length ≤ 20 := ite_len tubL_len b38
  have t2 : (if d.2.2.1 u 2 < 0 then [] else byts 43 ++ digs (d.2.2.2 (d.2.2.1 u 2).toNatClampNeg 0).toNatClampNeg).length ≤ 8 := ite_len (Nat.zero_le _) (by rw [List.length_append]; have := digs_len (a := (d.2.2.2 (d.2.2.1 u 2).toNatClampNeg 0).toNatClampNeg); omega)
  have t3 : (if d.2.2.1 u 4 ≤ 0 then [] else byts 44 ++ digs (d.2.2.1 u 4).toNatClampNeg).length ≤ 8 := ite_len (Nat.zero_le _) (by rw [List.length_append]; have := digs_len (a := (d.2.2.1 u 4).toNatClampNeg); omega)
  unfold lineL
  rw [List.length_append, List.length_append, List.length_append, List.length_append]
  omega
section PAIRS3
variable {E : xE} {x m K : Nat} {h : xHi} {d : xCo} {r : mRs} {o : Nat → Int32} {t : mTx}
theorem pr_line {z : Int32} (I : IV K h d r o t) : PR M_P9_line M_X10_line E x m K h d r o t [.int z] [.int z] ["java/lang/IndexOutOfBoundsException"] := by
  obtain ⟨⟨⟨R, J, U⟩, A2⟩, ⟨B, B2⟩, C, T, D, l0, l1, -, -, -⟩ := id I
  have hL := inL_of R J U
  by_cases h1 : okU (h.1 0) z
  · have h1' := (okU_e R).mpr h1
    obtain ⟨j, hj, hj5, rfl⟩ := okU_n J h1
    have e := line_e R J hj
    have hlen := lineL_len (d := d) (u := j)
    intro w H
    refine ⟨0, nI (lineL d j).length, nI (lineL d j).length, fun g => ∃ B9, g = sbH h B9 ∧ hasL B9 (lineL d j), fun d2 r2 o2 t2 => d2 = d ∧ r2 = r ∧ o2 = upd (upd o 2 0) 6 (nI (lineL d j).length) ∧ t2 = (catF t.1 (lineL d j), t.2), Nat.zero_le _, fun _ => rfl, fun Po hp => ct_P9_line H l1 (inD_of J) ?_, fun w2 Po hp => ct_X10_line hL ?_, ?_⟩
    · rw [if_pos h1, nI_cl (by omega), e]
      intro u B9 hN
      obtain ⟨n1, n2, n3, n4, n5⟩ := hN
      exact hp u _ ⟨B9, rfl, n2⟩ n5 n1 ⟨n3, fun q hq hl => n4 q (fun y => hq (Or.inl ⟨by omega, by omega⟩)) (fun y => hq (Or.inr y)) hl⟩
    · rw [if_pos h1', nI_cl (by omega)]
      exact hp _ _ _ _ ⟨rfl, rfl, rfl, rfl⟩
    · rintro h2 d2 r2 o2 t2 ⟨B9, rfl, hB⟩ ⟨rfl, rfl, rfl, rfl⟩
      have ho : ∀ i, i ≠ 2 → i ≠ 6 → upd (upd o 2 0) 6 (nI (lineL d2 j).length) i = o i := fun i q1 q2 => (upd_o q2).trans (upd_o q1)
      refine ⟨IV.mono (K := K) ⟨⟨⟨R, J, U⟩, A2⟩, ?_, ?_, ?_, ?_, lineL d2 j, hB, hlen, upd_s, fun k hk => if_pos hk⟩ (by omega), (upd_o (by decide)).trans upd_s⟩
      · rw [ho 0 (by decide) (by decide)]; exact ⟨B, B2⟩
      · rw [ho 1 (by decide) (by decide)]; exact C
      · rw [ho 7 (by decide) (by decide)]; exact T
      · rw [ho 10 (by decide) (by decide)]; exact D
  · refine pr_ask (k := 1) (v := 0) (v2 := 0) I (by decide) (fun _ => rfl) (fun w Po H hp => ct_P9_line H l1 (inD_of J) ?_) (fun w2 Po hp => ct_X10_line hL ?_)
    · rw [if_neg h1]; exact hp
    · rw [if_neg (fun q => h1 ((okU_e R).mp q))]; exact hp
theorem mbF_k {x9 : Int32} {N k : Nat} (h : 9 < k) : ∀ (n i : Nat) (d : xCo), (mbF x9 N n i d).2.1 k = d.1 k
  | 0, _, _ => rfl
  | n + 1, i, d => by
    unfold mbF
    split
    · rfl
    · rw [mbF_k h n _ _]; exact cnt_Hour (Or.inr h) (by omega)
theorem EQ9.rf {c : xCo} : EQ9 c c := ⟨fun _ _ => rfl, fun _ _ => rfl, fun _ _ => rfl, fun _ _ => rfl⟩
theorem G9.cpr {K : Nat} {d p q : xCo} (h : G9 K p q) : G9 K p (cpS d q) := ⟨h.1.eq h.2.1.1 EQ9.rf eq_cp, h.2.1, h.2.2.eq eq_cp⟩
theorem pr_bathesIn {z : Int32} (I : IV K h d r o t) (hK9 : K + 15000 < 16000000) : PR M_X9_bathesIn M_X10_bathesIn E x m K h d r o t [.int z] [.int z] ["java/util/NoSuchElementException"] := by
  obtain ⟨⟨⟨R, J, U⟩, A2⟩, ⟨B, B2⟩, ⟨n, f1, f2, f3, f4, f5⟩, T, D, L⟩ := id I
  have a5 := J.1.2.1
  have hd : inC d ∧ inH d (n2 (h.1 0)) := ⟨(inP_of R J U).1, inH_of R J U⟩
  have gc : G9 K (cpS (h.1 1) (h.1 0)) d := G9.cpl ⟨R, J, U⟩
  have en : n2 (cpS (h.1 1) (h.1 0)) = n2 (h.1 0) := (eq_cp (c := h.1 1) (p := h.1 0)).n.2.1
  have ea : awtS (h.1 0) z (n2 (h.1 0)) 0 = awtS d z (n2 (h.1 0)) 0 := awt_r R
  have hv : inC (cpS (h.1 1) (h.1 0)) ∧ n2 (h.1 0) ≤ 5 ∧ (cpS (h.1 1) (h.1 0)).1 2 = nI (n2 (h.1 0)) := ⟨gc.2.1.inC, a5.2, ((eq_cp (c := h.1 1) (p := h.1 0)).1 2 (by decide)).trans a5.1⟩
  have key : ∀ (k : Nat) (v : Int32), k ≤ 1 → (∀ u (Po : xPo), Po (rs ["java/util/NoSuchElementException"] k v) u → (if awtS (h.1 0) z (n2 (h.1 0)) 0 = 0 then Po (.inr "java/util/NoSuchElementException") u else if 0 ≤ (hbF z (n2 (h.1 0)) 60 1 (cpS (h.1 1) (h.1 0))).1 then Po (.inl (some (.int (hbF z (n2 (h.1 0)) 60 1 (cpS (h.1 1) (h.1 0))).1))) u else Po (.inr "java/util/NoSuchElementException") u)) →
      (∀ (w2 : xW) (Po : xPo), Po (.inl (some (.int v))) (md E w2 m (cpS (mbF z (n2 (h.1 0)) 60 0 d).2 d) (r.1, d, r.2.2) (upd o 2 (nI k)) t) → (if awtS d z (n2 (h.1 0)) 0 = 0 ∨ ¬ awtS (mbF z (n2 (h.1 0)) 60 0 d).2 z (n2 (h.1 0)) 0 = 0 then Po (.inl (some (.int 0))) (md E w2 m (cpS (mbF z (n2 (h.1 0)) 60 0 d).2 d) (r.1, d, r.2.2) (upd o 2 1) t) else Po (.inl (some (.int (nI (mbF z (n2 (h.1 0)) 60 0 d).1)))) (md E w2 m (cpS (mbF z (n2 (h.1 0)) 60 0 d).2 d) (r.1, d, r.2.2) (upd o 2 0) t))) → PR M_X9_bathesIn M_X10_bathesIn E x m K h d r o t [.int z] [.int z] ["java/util/NoSuchElementException"] := fun k v hk q1 q2 w H => by
    refine ⟨k, v, v, fun g => ∃ c, g = upS h 1 c, fun d2 r2 o2 t2 => d2 = cpS (mbF z (n2 (h.1 0)) 60 0 d).2 d ∧ r2 = (r.1, d, r.2.2) ∧ o2 = upd o 2 (nI k) ∧ t2 = t, hk, fun _ => rfl, fun Po hp => ct_X9_bathesIn H (fun c => inC c ∧ n2 (h.1 0) ≤ 5 ∧ c.1 2 = nI (n2 (h.1 0))) (fun c hc => inv_c hc) J.inC a5.2 a5.1 hv (fun u h2 hu hh hf => ?_), fun w2 Po hp => ct_X10_bathesIn (fun c => inC c ∧ inH c (n2 (h.1 0))) (fun c hc => ⟨(inv_d hc).1, (inv_d hc).2.1, (inv_d hc).2.2⟩) hd (q2 w2 Po (hp _ _ _ _ ⟨rfl, rfl, rfl, rfl⟩)), ?_⟩
    · obtain ⟨c, rfl⟩ := hh
      exact q1 u Po (hp u _ ⟨c, rfl⟩ (Or.inl rfl) hu hf)
    · rintro h2 d2 r2 o2 t2 ⟨c, rfl⟩ ⟨rfl, rfl, rfl, rfl⟩
      refine ⟨IV.oo (o := o) (IV.mono (K := K) ⟨⟨G9.cpr ⟨R, J, U⟩, ?_, ?_⟩, ⟨B, B2⟩, ⟨n, f1, f2, f3, f4, fun i hi => ?_⟩, T, D, L⟩ (by omega)) o_2, upd_s⟩
      · show (mbF z (n2 (h.1 0)) 60 0 d).2.1 10 = (h.1 0).1 10
        rw [mbF_k (by decide)]; exact A2.1
      · show (mbF z (n2 (h.1 0)) 60 0 d).2.1 11 = (h.1 0).1 11
        rw [mbF_k (by decide)]; exact A2.2
      · show G9 K (if 3 + (h.2.1.1 + 9 - n + i) % 9 = 1 then _ else h.1 (3 + (h.2.1.1 + 9 - n + i) % 9)) _
        rw [if_neg (by omega)]; exact f5 i hi
  by_cases h0 : awtS d z (n2 (h.1 0)) 0 = 0
  · refine key 1 0 (by decide) (fun u Po q => ?_) (fun w2 Po q => ?_)
    · rw [if_pos (ea.trans h0)]; exact q
    · rw [if_pos (Or.inl h0)]; exact q
  · have e := bath0 (x := z) gc.1 gc.2.1 (by omega) en.symm h0
    have hle := mbF_le (x := z) (N := n2 (h.1 0)) 60 0 d
    by_cases h3 : awtS (mbF z (n2 (h.1 0)) 60 0 d).2 z (n2 (h.1 0)) 0 = 0
    · rw [if_pos h3] at e
      refine key 0 (nI (mbF z (n2 (h.1 0)) 60 0 d).1) (by decide) (fun u Po q => ?_) (fun w2 Po q => ?_)
      · rw [if_neg (by rw [ea]; exact h0), e, if_pos (nI_pos' (by omega))]; exact q
      · rw [if_neg (fun y => y.elim h0 (fun y => y h3))]; exact q
    · rw [if_neg h3] at e
      refine key 1 0 (by decide) (fun u Po q => ?_) (fun w2 Po q => ?_)
      · rw [if_neg (by rw [ea]; exact h0), e, if_neg no_m1]; exact q
      · rw [if_pos (Or.inr h3)]; exact q
theorem pr_read (I : IV K h d r o t) (hK9 : K + 15000 < 16000000) : PR M_X9_read M_X10_read E x m K h d r o t [] [] ["java/lang/IllegalArgumentException", "java/lang/UnsupportedOperationException"] := by
  obtain ⟨⟨⟨R, J, U⟩, A2⟩, ⟨B, B2⟩, ⟨n, f1, f2, f3, f4, f5⟩, ⟨n6, g1, g2, g3, g4⟩, D, L⟩ := id I
  obtain ⟨RA, hA⟩ : ∃ q, ffS h.2.2.1.2.2 h.2.2.1.1 h.2.2.1.2.1 = q := ⟨_, rfl⟩
  obtain ⟨RB, hB⟩ : ∃ q, coF h.2.2.1.2.2 60 0 (upd RA.2.1 1 0) RA.2.2 (h.1 0) = q := ⟨_, rfl⟩
  obtain ⟨S, hS⟩ : ∃ q, rdM t.2.1 n6 61 (rcM t.2.1 n6 0 0 t.2.2) = q := ⟨_, rfl⟩
  have hf := ff_e (f := h.2.2.1.2.2) g1 60 61 0 0 (upd h.2.2.1.1 1 0) h.2.2.1.2.1 t.2.2 ((upd_o (by decide)).trans g2) upd_s (by decide) (Nat.zero_le _) (by omega)
  rw [show ffF h.2.2.1.2.2 60 (upd h.2.2.1.1 1 0) h.2.2.1.2.1 = RA from hA, g4, hS] at hf
  obtain ⟨hf0, hf1⟩ := hf
  have hcl : ∀ (w : xW) (Po : xPo), HI E w x h → (if RA.1 < 0 then (if 0 ≤ RB.1 then ∀ u, HI E u x (hK (rdT h RB)) → Fr w u x h → Po (.inl (some (.int RB.1))) u else ∀ u, HI E u x (upS (rdT h RB) 0 (cpS RB.2.2.2 ((hN h).1 (3 + h.2.1.1)))) → Fr w u x h → Po (.inr "java/lang/UnsupportedOperationException") u) else ∀ u, HI E u x (rdX h RA) → Fr w u x h → Po (.inr "java/lang/IllegalArgumentException") u) → Ct M_X9_read E [.ref x] w Po := fun w Po H hp => by
    refine ct_X9_read hA hB H (fun z c => z ≤ 60 ∧ (∃ e, R9 c e) ∧ J9 (K + 240 * (60 - z)) c) (fun z c hz => ?_) ⟨Nat.le_refl _, ⟨d, R⟩, J.mono (by omega)⟩ hp
    obtain ⟨z6, ⟨e, Re⟩, Je⟩ := hz
    refine ⟨Je.inC, fun m2 a b _ => ?_⟩
    rcases sim_do (m := m2) (a := a) (b := b) Re Je (by omega) with ⟨-, -, -, t3, t4⟩ | ⟨-, -, ta, tb, -, t3, -⟩ | ⟨-, -, t3, -⟩ | ⟨-, -, t3, -⟩
    · exact ⟨by omega, ⟨_, t3⟩, t4.mono (by omega)⟩
    · rw [t3]; exact ⟨by omega, ⟨cR e ta tb, r_R Re trivial⟩, (j_R Je).mono (by omega)⟩
    · rw [t3]; exact ⟨by omega, ⟨e, Re⟩, Je.mono (by omega)⟩
    · rw [t3]; exact ⟨by omega, ⟨e, Re⟩, Je.mono (by omega)⟩
  rcases hf1 with ⟨b1, b2, b3⟩ | ⟨b1, b2, b3⟩
  · have hB' : coF t.2.1 60 0 (upd RA.2.1 1 0) RA.2.2 (h.1 0) = RB := by rw [← g4]; exact hB
    obtain ⟨c1, c2, c3⟩ := co_e (f := t.2.1) g1 61 60 K 0 0 (upd RA.2.1 1 0) RA.2.2 t.2.2 (h.1 0) d S ((upd_o (by decide)).trans hf0) upd_s (Nat.zero_le _) (by decide) R J U (by omega) hS b2 b3
    have cc := rd_ok (f := t.2.1) g1 61 0 0 t.2.2 S (Nat.zero_le _) hS b2
    have hk := rd_k (f := t.2.1) (n := n6) 61 (rcM t.2.1 n6 0 0 t.2.2)
    rw [hS] at hk
    have hk1 := (rcM_ok (f := t.2.1) (n := n6) (p := 0) (k := 0) (com := t.2.2)).2.2
    have kS : S.2.2.1 < 1000 := by omega
    rw [hB'] at c3
    rw [Nat.sub_zero] at c2 c3
    have hml : ∀ (w2 : xW) (Po : xPo), (if (runM S.2.2.2 S.2.2.1 0 d).1 = true then ∀ o2, oK o o2 (nI (cnt1 n)) 0 0 (o 10) → Po (.inl (some (.int (nI S.2.2.1)))) (md E w2 m (runM S.2.2.2 S.2.2.1 0 d).2 (d, r.2.1, r.2.2.1, pPush n r.2.2.2 d) o2 (t.1, t.2.1, S.2.2.2)) else ∀ o2, oK o o2 (nI n) 2 0 (o 10) → Po (.inl (some (.int 0))) (md E w2 m (cpS (runM S.2.2.2 S.2.2.1 0 d).2 d) (d, r.2) o2 (t.1, t.2.1, S.2.2.2))) → Ct M_X10_read E [.ref m] (md E w2 m d r o t) Po := fun w2 Po hp => by
      refine ct_X10_read (N := 0) g1 g3 f1 f4 ?_
      rw [hS, if_pos ⟨b2, b3⟩]
      exact ⟨fun k hk => cc k (Nat.zero_le _) hk, c2 0, hp⟩
    rcases c3 with ⟨u1, u2, u3, u4, u5, u6, u7⟩ | ⟨u1, u2, a, b, e1, e2, v1, v2⟩
    · intro w H
      refine ⟨0, RB.1, nI S.2.2.1, fun g => g = hK (rdT h RB), fun d2 r2 o2 t2 => d2 = (runM S.2.2.2 S.2.2.1 0 d).2 ∧ r2 = (d, r.2.1, r.2.2.1, pPush n r.2.2.2 d) ∧ oK o o2 (nI (cnt1 n)) 0 0 (o 10) ∧ t2 = (t.1, t.2.1, S.2.2.2), Nat.zero_le _, fun _ => u2.symm, fun Po hp => hcl w Po H ?_, fun w2 Po hp => hml w2 Po ?_, ?_⟩
      · rw [if_pos b1, if_pos (by rw [u2]; exact nI_pos' (by omega))]
        exact fun u hu fu => hp u _ rfl (Or.inl rfl) hu fu
      · rw [if_pos u1]
        exact fun o2 ho => hp _ _ _ _ ⟨rfl, rfl, ho, rfl⟩
      · rintro h2 d2 r2 o2 t2 rfl ⟨rfl, rfl, ⟨p0, p6, p1, p2, p7, p10⟩, rfl⟩
        obtain ⟨⟨i1, i2⟩, ⟨i3, i4⟩, ⟨n9, i5, i6, i7, i8, i9⟩, -, i10, i11⟩ := iv_keep (c2 := RB.2.2.2) I f1 f4 ⟨u3, u4.mono (by omega), u5⟩ ⟨u7.1.trans (A2.1.trans u6.1.symm), u7.2.trans (A2.2.trans u6.2.symm)⟩
        have n0 : ∀ i, i = 0 ∨ i = 6 ∨ i = 10 → o2 i = upd (upd o 2 0) 1 (nI (cnt1 n)) i := fun i hi => by
          rw [upd_o (show i ≠ 1 by omega), upd_o (show i ≠ 2 by omega)]
          rcases hi with rfl | rfl | rfl
          · exact p0
          · exact p6
          · exact p10
        have n1 : o2 1 = upd (upd o 2 0) 1 (nI (cnt1 n)) 1 := p1.trans upd_s.symm
        refine ⟨⟨⟨i1, i2⟩, ?_, ⟨n9, i5, i6, i7, n1.trans i8, fun i hi => ?_⟩, ⟨0, by decide, show upd RB.2.1 0 0 0 = nI 0 from upd_s, p7, g4⟩, (n0 10 (by decide)).trans i10, ?_⟩, p2⟩
        · rw [n0 0 (by decide)]; exact ⟨i3, i4⟩
        · exact i9 i hi
        · rw [n0 6 (by decide)]; exact i11
    · intro w H
      refine ⟨2, 0, 0, fun g => g = upS (rdT h RB) 0 (cpS RB.2.2.2 ((hN h).1 (3 + h.2.1.1))), fun d2 r2 o2 t2 => d2 = cpS (runM S.2.2.2 S.2.2.1 0 d).2 d ∧ r2 = (d, r.2) ∧ oK o o2 (nI n) 2 0 (o 10) ∧ t2 = (t.1, t.2.1, S.2.2.2), by decide, fun _ => rfl, fun Po hp => hcl w Po H ?_, fun w2 Po hp => hml w2 Po ?_, ?_⟩
      · rw [if_pos b1, if_neg (by rw [u2]; exact no_m1)]
        exact fun u hu fu => hp u _ rfl (Or.inl rfl) hu fu
      · rw [if_neg (by rw [u1]; decide)]
        exact fun o2 ho => hp _ _ _ _ ⟨rfl, rfl, ho, rfl⟩
      · rintro h2 d2 r2 o2 t2 rfl ⟨rfl, rfl, ⟨p0, p6, p1, p2, p7, p10⟩, rfl⟩
        have gg : G9 K ((hN h).1 (3 + h.2.1.1)) d := by rw [hN_s]; exact G9.cpl ⟨R, J, U⟩
        refine ⟨IV.mono (K := K) ⟨⟨gg.cp, ?_, ?_⟩, ?_, ⟨n, f1, f2, f3, p1, ?_⟩, ⟨0, by decide, show upd RB.2.1 0 0 0 = nI 0 from upd_s, p7, g4⟩, p10.trans D, ?_⟩ (by omega), p2⟩
        · show (runM S.2.2.2 S.2.2.1 0 d).2.1 10 = RB.2.2.2.1 10
          rw [v1, v2]
          exact kr_cR.1
        · show (runM S.2.2.2 S.2.2.1 0 d).2.1 11 = RB.2.2.2.1 11
          rw [v1, v2]
          exact kr_cR.2
        · rw [p0]
          refine ⟨B, B2.imp id (fun q => ⟨q.1, ?_⟩)⟩
          show G9 K ((hN h).1 2) _
          rw [hN_2]; exact q.2
        · intro i hi
          have q : G9 K (if 3 + (h.2.1.1 + 9 - n + i) % 9 = 0 then d else (hN h).1 (3 + (h.2.1.1 + 9 - n + i) % 9)) (r.2.2.2 i) := px_n (c := d) f1 f2 f5 i hi
          rw [if_neg (by omega)] at q
          show G9 K (if 3 + (h.2.1.1 + 9 - n + i) % 9 = 0 then _ else (if 3 + (h.2.1.1 + 9 - n + i) % 9 = 0 then _ else (hN h).1 (3 + (h.2.1.1 + 9 - n + i) % 9))) (r.2.2.2 i)
          rw [if_neg (by omega), if_neg (by omega)]
          exact q
        · rw [p6]; exact L
  · intro w H
    refine ⟨1, 0, 0, fun g => g = rdX h RA, fun d2 r2 o2 t2 => d2 = d ∧ r2 = r ∧ oK o o2 (nI n) 1 0 (nI S.1) ∧ t2 = (t.1, t.2.1, S.2.2.2), by decide, fun _ => rfl, fun Po hp => hcl w Po H ?_, fun w2 Po hp => ?_, ?_⟩
    · rw [if_neg (by rw [b1]; exact nI_pos (by omega))]
      exact fun u hu fu => hp u _ rfl (Or.inl rfl) hu fu
    · refine ct_X10_read (N := 0) g1 g3 f1 f4 ?_
      rw [hS, if_neg b2]
      exact fun o2 ho => hp _ _ _ _ ⟨rfl, rfl, ho, rfl⟩
    · rintro h2 d2 r2 o2 t2 rfl ⟨rfl, rfl, ⟨p0, p6, p1, p2, p7, p10⟩, rfl⟩
      refine ⟨IV.mono (K := K) ⟨⟨⟨R, J, U⟩, A2⟩, ?_, ⟨n, f1, f2, f3, p1, f5⟩, ⟨0, by decide, show upd RA.2.1 0 0 0 = nI 0 from upd_s, p7, g4⟩, p10.trans b1.symm, ?_⟩ (by omega), p2⟩
      · rw [p0]; exact ⟨B, B2⟩
      · rw [p6]; exact L
end PAIRS3
