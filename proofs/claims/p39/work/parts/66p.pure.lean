/-! ===== 66p.pure: the pure picture that the forecast stands on (out of the whole's 57; laid by wip/p39/gen/pure2.py) ===== -/
theorem cU_s {c : xCo} {j k : Nat} {x : Int32} : (cU c j k x).2.2.1 j k = x := up2_s
/-- guests that wait are never more than six -/
def U4 (c : xCo) : Prop := ∀ u, u < 5 → ∃ m, m ≤ 6 ∧ c.2.2.1 u 4 = nI m
theorem U4.le {c d : xCo} (H : U4 c) (h : ∀ a, a < 5 → d.2.2.1 a 4 = c.2.2.1 a 4 ∨ (¬ c.2.2.1 a 4 ≤ 0 ∧ d.2.2.1 a 4 = c.2.2.1 a 4 - 1)) : U4 d := by
  intro a ha
  rcases h a ha with e | ⟨p, e⟩
  · rw [e]; exact H a ha
  · obtain ⟨m, hm, em⟩ := H a ha
    rw [em] at p e
    have h1 : 1 ≤ m := by
      have : m ≠ 0 := fun z => by rw [z] at p; exact p (by decide)
      omega
    refine ⟨m - 1, by omega, e.trans ?_⟩
    exact pk_sub (a := m) (b := 1) h1
theorem U4.ex {c d : xCo} (H : U4 c) (h : ∀ a, d.2.2.1 a 4 = c.2.2.1 a 4) : U4 d := H.le fun a _ => Or.inl (h a)
theorem u4_tail {c : xCo} {u j : Nat} (H : U4 c) : U4 (tailS c u j) := by
  unfold tailS
  split
  · exact H
  · split
    · refine H.ex fun a => ?_
      show (burnS c _).2.2.2.1 a 4 = _
      rw [burnS_1.2.2]
    · refine H.ex fun a => ?_
      show (burnS c _).2.2.2.1 a 4 = _
      rw [burnS_1.2.2]
theorem u4_bathe {c : xCo} {u j a : Nat} (h : ¬ c.2.2.1 u 4 ≤ 0) : (batheS c u j).2.2.1 a 4 = c.2.2.1 a 4 ∨ (¬ c.2.2.1 a 4 ≤ 0 ∧ (batheS c u j).2.2.1 a 4 = c.2.2.1 a 4 - 1) := by
  unfold batheS
  rw [show ∀ q : xCo, (bthD (bthC q j) u j).2.2.1 = q.2.2.1 from fun q => by unfold bthD; split <;> rfl]
  by_cases e : a = u
  · subst e
    refine Or.inr ⟨h, ?_⟩
    unfold bthB
    rw [show ∀ (q : xCo) (x : Int32), (cU q a 3 x).2.2.1 a 4 = q.2.2.1 a 4 from fun q x => up2_2 (by decide), cU_s]
    rfl
  · refine Or.inl ?_
    unfold bthB
    rw [show ∀ (q : xCo) (x : Int32), (cU q u 3 x).2.2.1 a = q.2.2.1 a from fun q x => up2_n e, show ∀ (q : xCo) (x : Int32), (cU q u 4 x).2.2.1 a = q.2.2.1 a from fun q x => up2_n e, cSh_o e]
    rfl
theorem u4_h2 {c : xCo} {u j : Nat} (H : U4 c) : U4 (hour2S c u j) := by
  unfold hour2S
  split
  · split
    · split
      · exact u4_tail H
      · split
        · exact u4_tail H
        · next q =>
          split
          · exact u4_tail H
          · exact H.le fun a _ => u4_bathe q
    · exact H
  · first | exact H | (split <;> exact H)
theorem u4_hrsT : ∀ (n i : Nat) (c : xCo), U4 c → U4 (hrsT n i c)
  | 0, _, _, H => H
  | n + 1, i, c, H => by
    show U4 (hrsT n (i + 1) (hourInS c i))
    refine u4_hrsT n _ _ ?_
    unfold hourInS
    split
    · exact u4_h2 H
    · exact H
theorem inv_c {c : xCo} {N : Nat} (h : inC c ∧ N ≤ 5 ∧ c.1 2 = nI N) : inC c ∧ N ≤ 5 ∧ c.1 2 = nI N ∧ inC (passS c 1).2 ∧ N ≤ 5 ∧ (passS c 1).2.1 2 = nI N := by
  have e1 : (passS c 1).2 = hourS c := rfl
  rw [e1]
  obtain ⟨⟨a, b, e, g⟩, i, k⟩ := h
  refine ⟨⟨a, b, e, g⟩, i, k, ⟨?_, ?_, ?_, u4_hrsT _ _ _ g⟩, i, (hourS_1 (by decide) (by decide)).trans k⟩
  · rw [hourS_1 (by decide) (by decide)]; exact a
  · rw [hourS_1 (by decide) (by decide)]; exact b
  · rw [hourS_1 (by decide) (by decide)]; exact e
