/-! ===== 60.read2: a text read on both sides ===== -/
theorem wd_e : ∀ i, i < 9 → xByt.getD (xWrd.getD i 0) [] = xByt.getD (28 + i) [] ∧ xLen.getD (xWrd.getD i 0) 0 = xLen.getD (28 + i) 0 := by decide +kernel
theorem fi_e {f : Nat → Int32} {n a : Int32} {i : Nat} (h : i < 9) : fiS f n a (xWrd.getD i 0) = fiS f n a (28 + i) := by
  obtain ⟨e1, e2⟩ := wd_e i h
  unfold fiS
  rw [e1, e2]
theorem rw_rk {F G : Nat → Nat} (hFG : ∀ i, i < 9 → F i = G i) (hG : ∀ i, i < 9 → G i ≤ 6) : ∀ (z i l : Nat) (h : Int32) (m : Nat) (v : Option Nat), i + z ≤ 9 → l ≤ 6 → ((h = 0 ∧ v = none) ∨ (h = 1 ∧ v = some m)) → (rwF F z i (nI l) h m).1 = nI (rkF G z i l v).1 ∧ (((rwF F z i (nI l) h m).2.1 = 0 ∧ (rkF G z i l v).2 = none) ∨ ((rwF F z i (nI l) h m).2.1 = 1 ∧ (rkF G z i l v).2 = some (rwF F z i (nI l) h m).2.2)) := by
  intro z
  induction z with
  | zero =>
    intro i l h m v _ _ hv
    exact ⟨rfl, hv⟩
  | succ z ih =>
    intro i l h m v hi hl hv
    have g6 := hG i (by omega)
    have w := wl_ok i (by omega)
    have el : (if nI l < nI (F i) then nI (F i) else nI l) = nI (if l < G i then G i else l) := by
      rw [hFG i (by omega)]
      by_cases q : l < G i
      · rw [if_pos q, if_pos (nI_lt q (by omega))]
      · rw [if_neg q, if_neg (fun y => q (nI_nlt' (by omega) (by omega) y))]
    have hl2 : (if l < G i then G i else l) ≤ 6 := by split <;> omega
    unfold rwF rkF
    rw [el, hFG i (by omega), (wd_e i (by omega)).2]
    by_cases e : G i = xLen.getD (28 + i) 0
    · rw [if_pos (congrArg nI e), if_pos e]
      exact ih (i + 1) _ 1 i (some i) (by omega) hl2 (Or.inr ⟨rfl, rfl⟩)
    · rw [if_neg (fun y => e (nI_inj (by omega) (by omega) y)), if_neg e]
      exact ih (i + 1) _ h m v (by omega) hl2 hv
theorem sg_at {f : Nat → Int32} {n p : Nat} (hn : n ≤ 60) (hp : p < 1000) : sgS f (nI n) (nI p) = if p < n then f p else -1 := by
  unfold sgS
  rw [if_neg (nI_pos (by omega))]
  by_cases h : p < n
  · rw [if_neg (fun q => by have := (nI_leI (by omega) (by omega)).mp q; omega), if_neg (fun q => by have := (nI_leI (a := 60) (by omega) (by omega)).mp q; omega), nI_cl (by omega), if_pos h]
  · rw [if_pos ((nI_leI (by omega) (by omega)).mpr (by omega)), if_neg h]
theorem rd_c {f c : Nat → Int32} {n p : Nat} (hn : n ≤ 60) (hp : p < 1000) (h0 : c 0 = nI n) (h1 : c 1 = nI p) : (hereS f n p 48 57 ∧ 0 ≤ f p - 48 ∧ rdS f c = (f p - 48, upd c 1 (nI (p + 1)))) ∨ (¬ hereS f n p 48 57 ∧ rdS f c = (-1, c)) := by
  unfold rdS
  rw [h0, h1, sg_at hn hp]
  by_cases q : p < n
  · rw [if_pos q]
    by_cases a : f p < 48
    · rw [if_pos a]
      exact Or.inr ⟨fun z => z.2 (Or.inl a), rfl⟩
    · rw [if_neg a]
      by_cases b : f p ≤ 57
      · rw [if_pos b, nI_1]
        refine Or.inl ⟨⟨q, fun z => z.elim a (fun z => Int32.not_lt.mpr b z)⟩, ?_, rfl⟩
        have a1 := Int32.le_iff_toInt_le.mp (Int32.not_lt.mp a)
        have a2 := Int32.le_iff_toInt_le.mp b
        rw [show (48 : Int32).toInt = 48 from rfl] at a1
        rw [show (57 : Int32).toInt = 57 from rfl] at a2
        rw [Int32.le_iff_toInt_le, Int32.toInt_sub, show (48 : Int32).toInt = 48 from rfl, Int.bmod_eq_of_le (by omega) (by omega)]
        show (0 : Int) ≤ _
        omega
      · rw [if_neg b]
        exact Or.inr ⟨fun z => z.2 (Or.inr (Int32.not_le.mp b)), rfl⟩
  · rw [if_neg q, if_pos (show (-1 : Int32) < 48 from by decide)]
    exact Or.inr ⟨fun z => q z.1, rfl⟩
theorem ac_c {f c : Nat → Int32} {n p : Nat} {x : Int32} (hn : n ≤ 60) (hp : p < 1000) (h0 : c 0 = nI n) (h1 : c 1 = nI p) (hx : x ≠ -1) : (hereS f n p x x ∧ acS f c x = (1, upd c 1 (nI (p + 1)))) ∨ (¬ hereS f n p x x ∧ acS f c x = (0, c)) := by
  unfold acS
  rw [h0, h1, sg_at hn hp]
  by_cases q : p < n
  · rw [if_pos q]
    by_cases a : f p = x
    · rw [if_pos a, nI_1]
      exact Or.inl ⟨⟨q, fun z => by rw [a] at z; exact z.elim Int32.lt_irrefl Int32.lt_irrefl⟩, rfl⟩
    · rw [if_neg a]
      exact Or.inr ⟨fun z => a (Int32.le_antisymm (Int32.not_lt.mp (fun y => z.2 (Or.inr y))) (Int32.not_lt.mp (fun y => z.2 (Or.inl y)))), rfl⟩
  · rw [if_neg q, if_neg (fun y => hx y.symm)]
    exact Or.inr ⟨fun z => q z.1, rfl⟩
theorem sgM_y {f : Nat → Int32} {n p : Nat} {a b : Int32} (h : hereS f n p a b) : sgM f n a b p 0 = (f p - a, p + 1, 0) := if_pos ⟨rfl, h⟩
theorem sgM_n {f : Nat → Int32} {n p : Nat} {a b : Int32} (h : ¬ hereS f n p a b) : sgM f n a b p 0 = (0, p, 1) := if_neg (fun q => h q.2)
theorem sgM_w {f : Nat → Int32} {n p : Nat} {a b : Int32} : sgM f n a b p 1 = (0, p, 1) := if_neg (fun q => absurd q.1 (by decide))
/-- what a command read means on both sides -/
def RC (n k : Nat) (com : Nat → Int32) (R : Int32 × (Nat → Int32) × Nat) (S : mSt) : Prop :=
  R.2.1 0 = nI n ∧ R.2.1 1 = nI S.1 ∧ ((R.1 = 0 ∧ S.2.1 = 1) ∨ (R.1 = 1 ∧ S.2.1 = 0 ∧ R.2.2 < 9 ∧ S.2.2.1 = k + 1 ∧ S.2.2.2 (3 * k) = nI R.2.2 ∧ S.2.2.2 (3 * k + 1) = R.2.1 2 ∧ ((R.2.2 = 0 ∨ R.2.2 = 2 ∨ R.2.2 = 5) → S.2.2.2 (3 * k + 2) = R.2.1 3) ∧ ∀ j, j < 3 * k → S.2.2.2 j = com j))
theorem RC.no {n k m p9 k9 : Nat} {com com9 c9 : Nat → Int32} (h0 : c9 0 = nI n) (h1 : c9 1 = nI p9) : RC n k com (0, c9, m) (p9, 1, k9, com9) := ⟨h0, h1, Or.inl ⟨rfl, rfl⟩⟩
theorem RC.ys {n k m p9 : Nat} {com com9 c9 : Nat → Int32} (h0 : c9 0 = nI n) (h1 : c9 1 = nI p9) (hm : m < 9) (e0 : com9 (3 * k) = nI m) (e1 : com9 (3 * k + 1) = c9 2) (e2 : (m = 0 ∨ m = 2 ∨ m = 5) → com9 (3 * k + 2) = c9 3) (e3 : ∀ j, j < 3 * k → com9 j = com j) : RC n k com (1, c9, m) (p9, 0, k + 1, com9) := ⟨h0, h1, Or.inr ⟨rfl, rfl, hm, rfl, e0, e1, e2, e3⟩⟩
theorem c3_a {com : Nat → Int32} {k : Nat} {a b c : Int32} : upd (upd (upd com (3 * k) a) (3 * k + 1) b) (3 * k + 2) c (3 * k) = a := by rw [upd_o (by omega), upd_o (by omega), upd_s]
theorem c3_b {com : Nat → Int32} {k : Nat} {a b c : Int32} : upd (upd (upd com (3 * k) a) (3 * k + 1) b) (3 * k + 2) c (3 * k + 1) = b := by rw [upd_o (by omega), upd_s]
theorem c3_o {com : Nat → Int32} {k j : Nat} {a b c : Int32} (h : j < 3 * k) : upd (upd (upd com (3 * k) a) (3 * k + 1) b) (3 * k + 2) c j = com j := by rw [upd_o (by omega), upd_o (by omega), upd_o (by omega)]
theorem c2_a {com : Nat → Int32} {k : Nat} {a b : Int32} : upd (upd com (3 * k) a) (3 * k + 1) b (3 * k) = a := by rw [upd_o (by omega), upd_s]
theorem c2_o {com : Nat → Int32} {k j : Nat} {a b : Int32} (h : j < 3 * k) : upd (upd com (3 * k) a) (3 * k + 1) b j = com j := by rw [upd_o (by omega), upd_o (by omega)]
theorem digS_1 : ∀ m, m < 9 → ((m = 0 ∨ m = 2 ∨ m = 5) → digS m = 2) ∧ (¬ (m = 0 ∨ m = 2 ∨ m = 5) → m ≤ 5 → digS m = 1) ∧ (¬ m ≤ 5 → digS m = 0) := by decide
theorem rc_e {f c com : Nat → Int32} {n p k m : Nat} (hn : n ≤ 60) (hp : p < 100) (h0 : c 0 = nI n) (h1 : c 1 = nI p) : RC n k com (rcS f c m) (rcM f n p k com) := by
  have hG : ∀ i, i < 9 → (fun i => fiS f (nI n) (nI p) (28 + i)) i ≤ 6 := fun i hi => Nat.le_trans fiS_le (wl_ok i hi).2
  obtain ⟨e1, e2⟩ := rw_rk (F := fun i => fiS f (nI n) (nI p) (xWrd.getD i 0)) (G := fun i => fiS f (nI n) (nI p) (28 + i)) (fun i hi => fi_e hi) hG 9 0 0 0 m none (by decide) (by decide) (Or.inl ⟨rfl, rfl⟩)
  obtain ⟨k1, k2⟩ := rkS_ok (f := f) (n := n) (p := p)
  have e1' : (rwS f (c 0) (c 1) m).1 = nI (rkS f n p).1 := by rw [h0, h1]; exact e1
  have e2' : ((rwS f (c 0) (c 1) m).2.1 = 0 ∧ (rkS f n p).2 = none) ∨ ((rwS f (c 0) (c 1) m).2.1 = 1 ∧ (rkS f n p).2 = some (rwS f (c 0) (c 1) m).2.2) := by rw [h0, h1]; exact e2
  unfold rcS
  generalize rwS f (c 0) (c 1) m = W at e1' e2' ⊢
  have ep : c 1 + W.1 = nI (p + (rkS f n p).1) := by rw [h1, e1', nI_a2]
  rw [ep]
  unfold rcM
  generalize rkS f n p = V at e1' e2' k1 k2 ep ⊢
  obtain ⟨V1, V2⟩ := V
  rcases e2' with ⟨a1, a2⟩ | ⟨a1, a2⟩
  · have a2' : V2 = none := a2
    subst a2'
    unfold rc1
    rw [if_pos a1]
    show RC n k com (0, upd c 1 (nI (p + V1)), W.2.2) (p + V1, 1, k, com)
    exact RC.no (by rw [upd_o (by decide)]; exact h0) upd_s
  · have a2' : V2 = some W.2.2 := a2
    subst a2'
    obtain ⟨c9, -⟩ := k2 _ rfl
    have k1' : V1 ≤ 6 := k1
    generalize W.2.2 = cm at c9 ⊢
    unfold rc1
    rw [if_neg (by rw [a1]; decide)]
    show RC n k com (rc2 f (upd (rdS f (upd c 1 (nI (p + V1)))).2 2 (rdS f (upd c 1 (nI (p + V1)))).1) cm) (rc2M f n cm (p + V1) k com)
    have b0 : upd c 1 (nI (p + V1)) 0 = nI n := (upd_o (by decide)).trans h0
    have b1 : upd c 1 (nI (p + V1)) 1 = nI (p + V1) := upd_s
    generalize upd c 1 (nI (p + V1)) = c1 at b0 b1 ⊢
    obtain ⟨g1, g2, g3⟩ := digS_1 cm c9
    rcases rd_c (f := f) hn (show p + V1 < 1000 by omega) b0 b1 with ⟨hh, hpos, er⟩ | ⟨hh, er⟩
    · rw [er]
      have c20 : upd (upd c1 1 (nI (p + V1 + 1))) 2 (f (p + V1) - 48) 0 = nI n := (upd_o (by decide)).trans ((upd_o (by decide)).trans b0)
      have c21 : upd (upd c1 1 (nI (p + V1 + 1))) 2 (f (p + V1) - 48) 1 = nI (p + V1 + 1) := (upd_o (by decide)).trans upd_s
      have c22 : upd (upd c1 1 (nI (p + V1 + 1))) 2 (f (p + V1) - 48) 2 = f (p + V1) - 48 := upd_s
      show RC n k com (rc2 f (upd (upd c1 1 (nI (p + V1 + 1))) 2 (f (p + V1) - 48)) cm) _
      generalize upd (upd c1 1 (nI (p + V1 + 1))) 2 (f (p + V1) - 48) = c2 at c20 c21 c22 ⊢
      unfold rc2 rc2M
      rw [if_pos (show 0 ≤ c2 2 by rw [c22]; exact hpos)]
      by_cases q5 : cm ≤ 5
      · rw [if_pos q5, sgM_y hh]
        unfold rc3M
        by_cases q2 : cm = 0 ∨ cm = 2 ∨ cm = 5
        · rw [if_neg (show ¬ digS cm = 1 by rw [g1 q2]; decide), if_pos (g1 q2), if_pos q2]
          show RC n k com (rc3 f (acS f c2 32).1 (acS f c2 32).2 cm) ((sgM f n 48 57 (sgM f n 32 32 (p + V1 + 1) 0).2.1 (sgM f n 32 32 (p + V1 + 1) 0).2.2).2.1, (sgM f n 48 57 (sgM f n 32 32 (p + V1 + 1) 0).2.1 (sgM f n 32 32 (p + V1 + 1) 0).2.2).2.2, k + 1, upd (upd (upd com (3 * k) (nI cm)) (3 * k + 1) (f (p + V1) - 48)) (3 * k + 2) (sgM f n 48 57 (sgM f n 32 32 (p + V1 + 1) 0).2.1 (sgM f n 32 32 (p + V1 + 1) 0).2.2).1)
          unfold rc3
          rcases ac_c (f := f) (x := 32) hn (show p + V1 + 1 < 1000 by omega) c20 c21 (by decide) with ⟨sh, es⟩ | ⟨sh, es⟩
          · rw [es, sgM_y sh]
            rw [if_neg (show ¬ ((1 : Int32), upd c2 1 (nI (p + V1 + 1 + 1))).1 = 0 from (by decide : ¬ (1 : Int32) = 0))]
            show RC n k com (rc4 (rdS f (upd c2 1 (nI (p + V1 + 1 + 1)))).1 (rdS f (upd c2 1 (nI (p + V1 + 1 + 1)))).2 cm) ((sgM f n 48 57 (p + V1 + 1 + 1) 0).2.1, (sgM f n 48 57 (p + V1 + 1 + 1) 0).2.2, k + 1, upd (upd (upd com (3 * k) (nI cm)) (3 * k + 1) (f (p + V1) - 48)) (3 * k + 2) (sgM f n 48 57 (p + V1 + 1 + 1) 0).1)
            have d0 : upd c2 1 (nI (p + V1 + 1 + 1)) 0 = nI n := (upd_o (by decide)).trans c20
            have d1 : upd c2 1 (nI (p + V1 + 1 + 1)) 1 = nI (p + V1 + 1 + 1) := upd_s
            have d2 : upd c2 1 (nI (p + V1 + 1 + 1)) 2 = f (p + V1) - 48 := (upd_o (by decide)).trans c22
            generalize upd c2 1 (nI (p + V1 + 1 + 1)) = c3 at d0 d1 d2 ⊢
            unfold rc4
            rcases rd_c (f := f) hn (show p + V1 + 1 + 1 < 1000 by omega) d0 d1 with ⟨th, tpos, et⟩ | ⟨th, et⟩
            · rw [et, sgM_y th]
              rw [if_neg (show ¬ upd (f (p + V1 + 1 + 1) - 48, upd c3 1 (nI (p + V1 + 1 + 1 + 1))).2 3 (f (p + V1 + 1 + 1) - 48, upd c3 1 (nI (p + V1 + 1 + 1 + 1))).1 3 < 0 from by rw [upd_s]; exact Int32.not_lt.mpr tpos)]
              refine RC.ys (by rw [upd_o (by decide)]; show upd c3 1 (nI (p + V1 + 1 + 1 + 1)) 0 = nI n; rw [upd_o (by decide)]; exact d0) (by rw [upd_o (by decide)]; show upd c3 1 (nI (p + V1 + 1 + 1 + 1)) 1 = nI (p + V1 + 1 + 1 + 1); exact upd_s) c9 c3_a (c3_b.trans ?_) (fun _ => upd_s.trans upd_s.symm) (fun j hj => c3_o hj)
              rw [upd_o (by decide)]
              show _ = upd c3 1 (nI (p + V1 + 1 + 1 + 1)) 2
              rw [upd_o (by decide)]
              exact d2.symm
            · rw [et, sgM_n th]
              rw [if_pos (show upd ((-1 : Int32), c3).2 3 ((-1 : Int32), c3).1 3 < 0 from by rw [upd_s]; exact m1)]
              exact RC.no (by rw [upd_o (by decide)]; exact d0) (by rw [upd_o (by decide)]; exact d1)
          · rw [es, sgM_n sh]
            rw [if_pos (show ((0 : Int32), c2).1 = 0 from rfl)]
            show RC n k com (rc4 (-1) c2 cm) ((sgM f n 48 57 (p + V1 + 1) 1).2.1, (sgM f n 48 57 (p + V1 + 1) 1).2.2, k + 1, upd (upd (upd com (3 * k) (nI cm)) (3 * k + 1) (f (p + V1) - 48)) (3 * k + 2) (sgM f n 48 57 (p + V1 + 1) 1).1)
            rw [sgM_w]
            unfold rc4
            rw [if_pos (show upd c2 3 (-1) 3 < 0 from by rw [upd_s]; exact m1)]
            exact RC.no (by rw [upd_o (by decide)]; exact c20) (by rw [upd_o (by decide)]; exact c21)
        · rw [if_pos (g2 q2 q5), if_neg q2]
          exact RC.ys c20 c21 c9 c2_a (upd_s.trans c22.symm) (fun z => absurd z q2) (fun j hj => c2_o hj)
      · have q2 : ¬ (cm = 0 ∨ cm = 2 ∨ cm = 5) := by omega
        rw [if_neg q5, if_neg (show ¬ digS cm = 1 by rw [g3 q5]; decide), if_neg (show ¬ digS cm = 2 by rw [g3 q5]; decide)]
        unfold fgM
        rw [sgM_y hh]
        show RC n k com (rc5 (rdS f c2).1 (rdS f c2).2 cm) (rc3M f n cm k com (if (0 : Int32) = 0 ∧ hereS f n (p + V1 + 1) 48 57 then (10 * (f (p + V1) - 48) + (sgM f n 48 57 (p + V1 + 1) 0).1, (sgM f n 48 57 (p + V1 + 1) 0).2) else (f (p + V1) - 48, p + V1 + 1, 0)))
        rcases rd_c (f := f) hn (show p + V1 + 1 < 1000 by omega) c20 c21 with ⟨th, tpos, et⟩ | ⟨th, et⟩
        · rw [et, if_pos ⟨rfl, th⟩, sgM_y th]
          unfold rc3M
          rw [if_neg q2]
          unfold rc5
          refine RC.ys (by rw [upd_o (by decide)]; show upd c2 1 (nI (p + V1 + 1 + 1)) 0 = nI n; rw [upd_o (by decide)]; exact c20) (by rw [upd_o (by decide)]; show upd c2 1 (nI (p + V1 + 1 + 1)) 1 = nI (p + V1 + 1 + 1); exact upd_s) c9 c2_a (upd_s.trans (Eq.trans ?_ upd_s.symm)) (fun z => absurd z q2) (fun j hj => c2_o hj)
          rw [if_pos tpos]
          show 10 * (f (p + V1) - 48) + (f (p + V1 + 1) - 48) = 10 * upd c2 1 (nI (p + V1 + 1 + 1)) 2 + (f (p + V1 + 1) - 48)
          rw [upd_o (show (2 : Nat) ≠ 1 by decide), c22]
        · rw [et, if_neg (fun z => th z.2)]
          unfold rc3M
          rw [if_neg q2]
          unfold rc5
          refine RC.ys (by rw [upd_o (by decide)]; exact c20) (by rw [upd_o (by decide)]; exact c21) c9 c2_a (upd_s.trans (Eq.trans ?_ upd_s.symm)) (fun z => absurd z q2) (fun j hj => c2_o hj)
          rw [if_neg (show ¬ (0 : Int32) ≤ ((-1 : Int32), c2).1 from no_m1)]
          exact c22.symm
    · rw [er]
      show RC n k com (rc2 f (upd c1 2 (-1)) cm) _
      unfold rc2
      rw [if_neg (show ¬ 0 ≤ upd c1 2 (-1) 2 from by rw [upd_s]; exact no_m1)]
      have e0 : upd c1 2 (-1) 0 = nI n := by rw [upd_o (by decide)]; exact b0
      have e1 : upd c1 2 (-1) 1 = nI (p + V1) := by rw [upd_o (by decide)]; exact b1
      unfold rc2M
      split
      · rw [sgM_n hh]
        unfold rc3M
        split
        · show RC n k com _ ((sgM f n 48 57 (sgM f n 32 32 (p + V1) 1).2.1 (sgM f n 32 32 (p + V1) 1).2.2).2.1, (sgM f n 48 57 (sgM f n 32 32 (p + V1) 1).2.1 (sgM f n 32 32 (p + V1) 1).2.2).2.2, k + 1, _)
          rw [sgM_w, sgM_w]
          exact RC.no e0 e1
        · exact RC.no e0 e1
      · next q5 =>
        unfold fgM
        rw [sgM_n hh]
        rw [if_neg (show ¬ (((0 : Int32), p + V1, (1 : Int32)).2.2 = 0 ∧ hereS f n ((0 : Int32), p + V1, (1 : Int32)).2.1 48 57) from fun z => absurd z.1 (by decide : ¬ (1 : Int32) = 0))]
        unfold rc3M
        rw [if_neg (by omega)]
        exact RC.no e0 e1
