/-! ===== 55.asks3: what both sides tell ===== -/
theorem gAt_e {f g : Nat → Int32} (h : ∀ k, k < 11 → f k = g k) {p : Int32} : gAtS f p = gAtS g p := by
  unfold gAtS
  rw [h 4 (by decide)]
  by_cases q : p < 0 ∨ g 4 ≤ p ∨ 6 ≤ p
  · rw [if_pos q, if_pos q]
  · rw [if_neg q, if_neg q]
    obtain ⟨k, hk, rfl⟩ := ixOf (n := 6) (by decide) (fun z => q (Or.inl z)) (fun z => q (Or.inr (Or.inr z)))
    rw [nI_cl (by omega)]
    exact h _ (by omega)
theorem awS_e {f g : Nat → Int32} (h : ∀ k, k < 11 → f k = g k) {x : Int32} : ∀ n j, awS f x n j = awS g x n j := by
  intro n
  induction n with
  | zero => intro j; rfl
  | succ n ih => intro j; rw [awS, awS, gAt_e h, ih]
theorem awtS_e {c d : xCo} {x : Int32} {N : Nat} (h : ∀ u, u < N → ∀ k, k < 11 → c.2.2.1 u k = d.2.2.1 u k) : ∀ n j, j + n ≤ N → awtS c x n j = awtS d x n j := by
  intro n
  induction n with
  | zero => intro j _; rfl
  | succ n ih =>
    intro j hj
    have hr := h j (by omega)
    rw [awtS, awtS, hr 4 (by decide), awS_e hr, ih (j + 1) (by omega)]
theorem sumS_e {f g : Nat → Int32} : ∀ n, (∀ k, k < n → f k = g k) → sumS f n = sumS g n := by
  intro n
  induction n with
  | zero => intro _; rfl
  | succ n ih => intro h; rw [sumS, sumS, ih (fun k hk => h k (by omega)), h n (by omega)]
