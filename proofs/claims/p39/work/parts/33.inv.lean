/-! ===== 33.inv: what is kept of a store (by hand) ===== -/
theorem inC.cp {c d : xCo} (h : inC d) : inC (cpS c d) := ⟨h.1, h.2.1, h.2.2.1, fun u hu => by
  show ∃ m, m ≤ 6 ∧ (if u < 5 then d.2.2.1 u else c.2.2.1 u) 4 = nI m
  rw [if_pos hu]
  exact h.2.2.2 u hu⟩
theorem inC.co0 : inC co0 := ⟨⟨0, by omega, rfl⟩, ⟨0, by omega, rfl⟩, ⟨0, by omega, rfl⟩, fun _ _ => ⟨0, by omega, rfl⟩⟩
