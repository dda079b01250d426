/-! ===== 35.model: the reference's state: its row is a core laid flat; what is laid by; its object; its rows of signs ===== -/
def flat (d : xCo) (i : Nat) : Int32 := if i < 10 then d.1 i else if i < 66 then d.2.1 ((i - 10) / 7) ((i - 10) % 7) else if i < 121 then d.2.2.1 ((i - 66) / 11) ((i - 66) % 11) else if i < 129 then d.2.2.2 ((i - 121) / 2) ((i - 121) % 2) else 0
def flatP (r : Nat → xCo) (i : Nat) : Int32 := if i < 1032 then flat (r (i / 129)) (i % 129) else 0
/-- before, aside, saved, past -/
abbrev mRs : Type := xCo × xCo × xCo × (Nat → xCo)
/-- line, text, commands -/
abbrev mTx : Type := (Nat → Int32) × (Nat → Int32) × (Nat → Int32)
/-- the reference's object (o: 0 isSaved, 1 pastMany, 2 thrown, 5 isRefused, 6 lineMany, 7 length, 8 place, 9 isWrong, 10 fault, 11 commandMany; reason and detail are the core's 10 and 11) -/
def modE (m : Nat) (d : xCo) (o : Nat → Int32) : va_E := .inr (12, [.ref (m + 1), .ref (m + 2), .ref (m + 3), .ref (m + 4), .int (o 0), .ref (m + 5), .int (o 1), .int (o 2), .int (d.1 10), .int (d.1 11), .int (o 5), .ref (m + 6), .int (o 6), .ref (m + 7), .ref (m + 8), .int (o 7), .int (o 8), .int (o 9), .int (o 10), .ref (m + 9), .int (o 11)])
def wrdE (E : xE) : va_E := .inl (E.1.2 6, 9, .inr (.inr (.inr (.inr (fun k => if k < 9 then some (kS E (28 + k)) else none)))))
def rowE (E : xE) (d : xCo) : va_E := .inl (E.1.2 0, 129, .inl (flat d))
def pstE (E : xE) (r : Nat → xCo) : va_E := .inl (E.1.2 0, 1032, .inl (flatP r))
def chrE (E : xE) (f : Nat → Int32) : va_E := .inl (E.1.2 1, 60, .inl f)
def cmdE (E : xE) (f : Nat → Int32) : va_E := .inl (E.1.2 0, 180, .inl f)
def mdC (E : xE) (m : Nat) (d : xCo) (r : mRs) (o : Nat → Int32) (t : mTx) (q : Nat) : va_E :=
  if q = 0 then modE m d o else if q = 1 then rowE E d else if q = 2 then rowE E r.1 else if q = 3 then rowE E r.2.1 else if q = 4 then rowE E r.2.2.1 else if q = 5 then pstE E r.2.2.2 else if q = 6 then chrE E t.1 else if q = 7 then wrdE E else if q = 8 then chrE E t.2.1 else cmdE E t.2.2
/-- THE REFERENCE at m -/
def md (E : xE) (w : xW) (m : Nat) (d : xCo) (r : mRs) (o : Nat → Int32) (t : mTx) : xW := (fun q => if m ≤ q ∧ q < m + 10 then some (mdC E m d r o t (q - m)) else w.1 q, w.2)
section MODEL
variable {E : xE} {w : xW} {m : Nat} {d d2 : xCo} {r r2 : mRs} {o o2 : Nat → Int32} {t t2 : mTx}
theorem md_at {k : Nat} (h : k < 10) : (md E w m d r o t).1 (m + k) = some (mdC E m d r o t k) := by
  show (if m ≤ m + k ∧ m + k < m + 10 then _ else _) = _
  rw [if_pos ⟨by omega, by omega⟩, show m + k - m = k by omega]
theorem md_out {q : Nat} (h : q < m ∨ m + 10 ≤ q) : (md E w m d r o t).1 q = w.1 q := if_neg (by omega)
theorem md_2 : (md E w m d r o t).2 = w.2 := rfl
theorem md_g0 : (md E w m d r o t).1 m = some (modE m d o) := md_at (k := 0) (by decide)
theorem md_g1 : (md E w m d r o t).1 (m + 1) = some (rowE E d) := md_at (k := 1) (by decide)
theorem md_g2 : (md E w m d r o t).1 (m + 2) = some (rowE E r.1) := md_at (k := 2) (by decide)
theorem md_g3 : (md E w m d r o t).1 (m + 3) = some (rowE E r.2.1) := md_at (k := 3) (by decide)
theorem md_g4 : (md E w m d r o t).1 (m + 4) = some (rowE E r.2.2.1) := md_at (k := 4) (by decide)
theorem md_g5 : (md E w m d r o t).1 (m + 5) = some (pstE E r.2.2.2) := md_at (k := 5) (by decide)
theorem md_g6 : (md E w m d r o t).1 (m + 6) = some (chrE E t.1) := md_at (k := 6) (by decide)
theorem md_g7 : (md E w m d r o t).1 (m + 7) = some (wrdE E) := md_at (k := 7) (by decide)
theorem md_g8 : (md E w m d r o t).1 (m + 8) = some (chrE E t.2.1) := md_at (k := 8) (by decide)
theorem md_g9 : (md E w m d r o t).1 (m + 9) = some (cmdE E t.2.2) := md_at (k := 9) (by decide)
theorem md_md : md E (md E w m d r o t) m d2 r2 o2 t2 = md E w m d2 r2 o2 t2 := by
  refine Prod.ext ?_ rfl
  funext q
  show (if m ≤ q ∧ q < m + 10 then _ else (if m ≤ q ∧ q < m + 10 then _ else _)) = (if m ≤ q ∧ q < m + 10 then _ else _)
  split <;> rfl
theorem md_id (h : ∀ k, k < 10 → w.1 (m + k) = some (mdC E m d r o t k)) : md E w m d r o t = w := by
  refine Prod.ext ?_ rfl
  funext q
  show (if m ≤ q ∧ q < m + 10 then _ else _) = _
  split
  · rename_i hq
    have := h (q - m) (by omega)
    rw [show m + (q - m) = q by omega] at this
    exact this.symm
  · rfl
theorem md_put {k : Nat} {e : va_E} (h : k < 10) (he : mdC E m d2 r2 o2 t2 k = e) (ho : ∀ j, j < 10 → j ≠ k → mdC E m d2 r2 o2 t2 j = mdC E m d r o t j) : xset (md E w m d r o t) (m + k) e = md E w m d2 r2 o2 t2 := by
  refine Prod.ext ?_ rfl
  funext q
  show (if q = m + k then some e else (if m ≤ q ∧ q < m + 10 then some (mdC E m d r o t (q - m)) else w.1 q)) = (if m ≤ q ∧ q < m + 10 then some (mdC E m d2 r2 o2 t2 (q - m)) else w.1 q)
  by_cases h1 : q = m + k
  · subst h1
    rw [if_pos rfl, if_pos ⟨by omega, by omega⟩, show m + k - m = k by omega, he]
  · rw [if_neg h1]
    by_cases h2 : m ≤ q ∧ q < m + 10
    · rw [if_pos h2, if_pos h2, ho (q - m) (by omega) (by omega)]
    · rw [if_neg h2, if_neg h2]
theorem c10 {P : Nat → Prop} (h0 : P 0) (h1 : P 1) (h2 : P 2) (h3 : P 3) (h4 : P 4) (h5 : P 5) (h6 : P 6) (h7 : P 7) (h8 : P 8) (h9 : P 9) : ∀ k, k < 10 → P k := by
  intro k hk
  rcases (show k = 0 ∨ k = 1 ∨ k = 2 ∨ k = 3 ∨ k = 4 ∨ k = 5 ∨ k = 6 ∨ k = 7 ∨ k = 8 ∨ k = 9 by omega) with rfl | rfl | rfl | rfl | rfl | rfl | rfl | rfl | rfl | rfl <;> assumption
theorem md_po {i : Nat} {v : Int32} : xset (md E w m d r o t) m (modE m d (upd o i v)) = md E w m d r (upd o i v) t :=
  md_put (k := 0) (by decide) rfl (c10 (fun h => absurd rfl h) (fun _ => rfl) (fun _ => rfl) (fun _ => rfl) (fun _ => rfl) (fun _ => rfl) (fun _ => rfl) (fun _ => rfl) (fun _ => rfl) (fun _ => rfl))
theorem flat_hi {k : Nat} {x : Int32} (h : 10 ≤ k) : flat (cS d k x) = flat d := by
  funext i
  unfold flat
  by_cases hi : i < 10
  · rw [if_pos hi, if_pos hi]; exact upd_o (by omega)
  · rw [if_neg hi, if_neg hi]
theorem md_pr {k : Nat} {v : Int32} (h : 10 ≤ k) : xset (md E w m d r o t) m (modE m (cS d k v) o) = md E w m (cS d k v) r o t := by
  refine md_put (k := 0) (by decide) rfl (c10 (fun h => absurd rfl h) (fun _ => ?_) (fun _ => rfl) (fun _ => rfl) (fun _ => rfl) (fun _ => rfl) (fun _ => rfl) (fun _ => rfl) (fun _ => rfl) (fun _ => rfl))
  show rowE E (cS d k v) = rowE E d
  unfold rowE
  rw [flat_hi h]
theorem md_p1 {f : Nat → Int32} (h : f = flat d2) (h10 : d2.1 10 = d.1 10) (h11 : d2.1 11 = d.1 11) : xset (md E w m d r o t) (m + 1) (.inl (E.1.2 0, 129, .inl f)) = md E w m d2 r o t := by
  subst h
  refine md_put (k := 1) (by decide) rfl (c10 (fun _ => ?_) (fun h => absurd rfl h) (fun _ => rfl) (fun _ => rfl) (fun _ => rfl) (fun _ => rfl) (fun _ => rfl) (fun _ => rfl) (fun _ => rfl) (fun _ => rfl))
  show modE m d2 o = modE m d o
  unfold modE
  rw [h10, h11]
theorem md_p2 {f : Nat → Int32} (h : f = flat d2) : xset (md E w m d r o t) (m + 2) (.inl (E.1.2 0, 129, .inl f)) = md E w m d (d2, r.2) o t := by
  subst h
  exact md_put (k := 2) (by decide) rfl (c10 (fun _ => rfl) (fun _ => rfl) (fun h => absurd rfl h) (fun _ => rfl) (fun _ => rfl) (fun _ => rfl) (fun _ => rfl) (fun _ => rfl) (fun _ => rfl) (fun _ => rfl))
theorem md_p3 {f : Nat → Int32} (h : f = flat d2) : xset (md E w m d r o t) (m + 3) (.inl (E.1.2 0, 129, .inl f)) = md E w m d (r.1, d2, r.2.2) o t := by
  subst h
  exact md_put (k := 3) (by decide) rfl (c10 (fun _ => rfl) (fun _ => rfl) (fun _ => rfl) (fun h => absurd rfl h) (fun _ => rfl) (fun _ => rfl) (fun _ => rfl) (fun _ => rfl) (fun _ => rfl) (fun _ => rfl))
theorem md_p4 {f : Nat → Int32} (h : f = flat d2) : xset (md E w m d r o t) (m + 4) (.inl (E.1.2 0, 129, .inl f)) = md E w m d (r.1, r.2.1, d2, r.2.2.2) o t := by
  subst h
  exact md_put (k := 4) (by decide) rfl (c10 (fun _ => rfl) (fun _ => rfl) (fun _ => rfl) (fun _ => rfl) (fun h => absurd rfl h) (fun _ => rfl) (fun _ => rfl) (fun _ => rfl) (fun _ => rfl) (fun _ => rfl))
theorem md_p5 {f : Nat → Int32} {p : Nat → xCo} (h : f = flatP p) : xset (md E w m d r o t) (m + 5) (.inl (E.1.2 0, 1032, .inl f)) = md E w m d (r.1, r.2.1, r.2.2.1, p) o t := by
  subst h
  exact md_put (k := 5) (by decide) rfl (c10 (fun _ => rfl) (fun _ => rfl) (fun _ => rfl) (fun _ => rfl) (fun _ => rfl) (fun h => absurd rfl h) (fun _ => rfl) (fun _ => rfl) (fun _ => rfl) (fun _ => rfl))
theorem md_p6 {f : Nat → Int32} : xset (md E w m d r o t) (m + 6) (.inl (E.1.2 1, 60, .inl f)) = md E w m d r o (f, t.2) :=
  md_put (k := 6) (by decide) rfl (c10 (fun _ => rfl) (fun _ => rfl) (fun _ => rfl) (fun _ => rfl) (fun _ => rfl) (fun _ => rfl) (fun h => absurd rfl h) (fun _ => rfl) (fun _ => rfl) (fun _ => rfl))
theorem md_p8 {f : Nat → Int32} : xset (md E w m d r o t) (m + 8) (.inl (E.1.2 1, 60, .inl f)) = md E w m d r o (t.1, f, t.2.2) :=
  md_put (k := 8) (by decide) rfl (c10 (fun _ => rfl) (fun _ => rfl) (fun _ => rfl) (fun _ => rfl) (fun _ => rfl) (fun _ => rfl) (fun _ => rfl) (fun _ => rfl) (fun h => absurd rfl h) (fun _ => rfl))
theorem md_p9 {f : Nat → Int32} : xset (md E w m d r o t) (m + 9) (.inl (E.1.2 0, 180, .inl f)) = md E w m d r o (t.1, t.2.1, f) :=
  md_put (k := 9) (by decide) rfl (c10 (fun _ => rfl) (fun _ => rfl) (fun _ => rfl) (fun _ => rfl) (fun _ => rfl) (fun _ => rfl) (fun _ => rfl) (fun _ => rfl) (fun _ => rfl) (fun h => absurd rfl h))
end MODEL
theorem flat_S {d : xCo} {k : Nat} (h : k < 10) : flat d k = d.1 k := if_pos h
theorem flat_T {d : xCo} {j k : Nat} (hj : j < 8) (hk : k < 7) : flat d (10 + 7 * j + k) = d.2.1 j k := by
  unfold flat
  rw [if_neg (by omega), if_pos (by omega), show (10 + 7 * j + k - 10) / 7 = j by omega, show (10 + 7 * j + k - 10) % 7 = k by omega]
theorem flat_U {d : xCo} {j k : Nat} (hj : j < 5) (hk : k < 11) : flat d (66 + 11 * j + k) = d.2.2.1 j k := by
  unfold flat
  rw [if_neg (by omega), if_neg (by omega), if_pos (by omega), show (66 + 11 * j + k - 66) / 11 = j by omega, show (66 + 11 * j + k - 66) % 11 = k by omega]
theorem flat_G {d : xCo} {j k : Nat} (hj : j < 4) (hk : k < 2) : flat d (121 + 2 * j + k) = d.2.2.2 j k := by
  unfold flat
  rw [if_neg (by omega), if_neg (by omega), if_neg (by omega), if_pos (by omega), show (121 + 2 * j + k - 121) / 2 = j by omega, show (121 + 2 * j + k - 121) % 2 = k by omega]
theorem flat_uS {d : xCo} {k : Nat} {x : Int32} (h : k < 10) : upd (flat d) k x = flat (cS d k x) := by
  funext i
  by_cases e : i = k
  · subst e; rw [upd_s, flat_S h]; exact upd_s.symm
  · rw [upd_o e]
    unfold flat
    by_cases hi : i < 10
    · rw [if_pos hi, if_pos hi]; exact (upd_o e).symm
    · rw [if_neg hi, if_neg hi]
theorem flat_uT {d : xCo} {j k : Nat} {x : Int32} (hj : j < 8) (hk : k < 7) : upd (flat d) (10 + 7 * j + k) x = flat (cT d j k x) := by
  funext i
  by_cases e : i = 10 + 7 * j + k
  · subst e; rw [upd_s, flat_T hj hk]; exact up2_s.symm
  · rw [upd_o e]
    unfold flat
    by_cases h1 : i < 10
    · rw [if_pos h1, if_pos h1]
    · rw [if_neg h1, if_neg h1]
      by_cases h2 : i < 66
      · rw [if_pos h2, if_pos h2]
        exact (up2_o (by omega)).symm
      · rw [if_neg h2, if_neg h2]
theorem flat_uU {d : xCo} {j k : Nat} {x : Int32} (hj : j < 5) (hk : k < 11) : upd (flat d) (66 + 11 * j + k) x = flat (cU d j k x) := by
  funext i
  by_cases e : i = 66 + 11 * j + k
  · subst e; rw [upd_s, flat_U hj hk]; exact up2_s.symm
  · rw [upd_o e]
    unfold flat
    by_cases h1 : i < 10
    · rw [if_pos h1, if_pos h1]
    · rw [if_neg h1, if_neg h1]
      by_cases h2 : i < 66
      · rw [if_pos h2, if_pos h2]
      · rw [if_neg h2, if_neg h2]
        by_cases h3 : i < 121
        · rw [if_pos h3, if_pos h3]
          exact (up2_o (by omega)).symm
        · rw [if_neg h3, if_neg h3]
theorem flat_uG {d : xCo} {j k : Nat} {x : Int32} (hj : j < 4) (hk : k < 2) : upd (flat d) (121 + 2 * j + k) x = flat (cG d j k x) := by
  funext i
  by_cases e : i = 121 + 2 * j + k
  · subst e; rw [upd_s, flat_G hj hk]; exact up2_s.symm
  · rw [upd_o e]
    unfold flat
    by_cases h1 : i < 10
    · rw [if_pos h1, if_pos h1]
    · rw [if_neg h1, if_neg h1]
      by_cases h2 : i < 66
      · rw [if_pos h2, if_pos h2]
      · rw [if_neg h2, if_neg h2]
        by_cases h3 : i < 121
        · rw [if_pos h3, if_pos h3]
        · rw [if_neg h3, if_neg h3]
          by_cases h4 : i < 129
          · rw [if_pos h4, if_pos h4]
            exact (up2_o (by omega)).symm
          · rw [if_neg h4, if_neg h4]
/-- a row copied -/
theorem flat_z {d : xCo} {i : Nat} (h : 129 ≤ i) : flat d i = 0 := by
  unfold flat
  rw [if_neg (by omega), if_neg (by omega), if_neg (by omega), if_neg (by omega)]
theorem flat_cp {d b : xCo} : va_cpy (flat d) (flat b) 0 0 129 = flat d := by
  funext i
  unfold va_cpy
  by_cases h : i < 129
  · rw [if_pos ⟨by omega, by omega⟩, show 0 + (i - 0) = i by omega]
  · rw [if_neg (by omega), flat_z (by omega), flat_z (by omega)]
theorem flat_cpS {d b : xCo} : flat (cpS d b) = flat b := by
  funext i
  unfold flat cpS
  by_cases h1 : i < 10
  · rw [if_pos h1, if_pos h1]; exact if_pos h1
  · rw [if_neg h1, if_neg h1]
    by_cases h2 : i < 66
    · rw [if_pos h2, if_pos h2]
      show (if (i - 10) / 7 < 8 then b.2.1 ((i - 10) / 7) else d.2.1 ((i - 10) / 7)) _ = _
      rw [if_pos (by omega)]
    · rw [if_neg h2, if_neg h2]
      by_cases h3 : i < 121
      · rw [if_pos h3, if_pos h3]
        show (if (i - 66) / 11 < 5 then b.2.2.1 ((i - 66) / 11) else d.2.2.1 ((i - 66) / 11)) _ = _
        rw [if_pos (by omega)]
      · rw [if_neg h3, if_neg h3]
        by_cases h4 : i < 129
        · rw [if_pos h4, if_pos h4]
          show (if (i - 121) / 2 < 4 then b.2.2.2 ((i - 121) / 2) else d.2.2.2 ((i - 121) / 2)) _ = _
          rw [if_pos (by omega)]
        · rw [if_neg h4, if_neg h4]
def pU (p : Nat → xCo) (n : Nat) (b : xCo) : Nat → xCo := fun i => if i = n then b else p i
def pSh (p : Nat → xCo) : Nat → xCo := fun i => if i < 7 then p (i + 1) else p i
theorem flatP_in {p : Nat → xCo} {n i : Nat} (hn : n < 8) (hi : i < 129) : flatP p (129 * n + i) = flat (p n) i := by
  unfold flatP
  rw [if_pos (by omega), show (129 * n + i) / 129 = n by omega, show (129 * n + i) % 129 = i by omega]
theorem flatP_u {p : Nat → xCo} {n : Nat} {b : xCo} (hn : n < 8) : va_cpy (flat b) (flatP p) 0 (129 * n) 129 = flatP (pU p n b) := by
  funext i
  unfold va_cpy
  by_cases h : 129 * n ≤ i ∧ i < 129 * n + 129
  · rw [if_pos h]
    obtain ⟨j, rfl⟩ : ∃ j, i = 129 * n + j := ⟨i - 129 * n, by omega⟩
    rw [flatP_in hn (by omega), show 0 + (129 * n + j - 129 * n) = j by omega]
    show _ = flat (if n = n then b else p n) j
    rw [if_pos rfl]
  · rw [if_neg h]
    unfold flatP
    by_cases h2 : i < 1032
    · rw [if_pos h2, if_pos h2]
      show _ = flat (if i / 129 = n then b else p (i / 129)) _
      rw [if_neg (by omega)]
    · rw [if_neg h2, if_neg h2]
theorem flatP_sh {p : Nat → xCo} : va_cpy (flatP p) (flatP p) 129 0 903 = flatP (pSh p) := by
  funext i
  unfold va_cpy
  by_cases h : i < 903
  · rw [if_pos ⟨by omega, by omega⟩]
    unfold flatP
    rw [if_pos (by omega), if_pos (by omega)]
    show _ = flat (if i / 129 < 7 then p (i / 129 + 1) else p (i / 129)) _
    rw [if_pos (by omega), show (129 + (i - 0)) / 129 = i / 129 + 1 by omega, show (129 + (i - 0)) % 129 = i % 129 by omega]
  · rw [if_neg (by omega)]
    unfold flatP
    by_cases h2 : i < 1032
    · rw [if_pos h2, if_pos h2]
      show _ = flat (if i / 129 < 7 then p (i / 129 + 1) else p (i / 129)) _
      rw [if_neg (by omega)]
    · rw [if_neg h2, if_neg h2]
theorem flatP_out {p : Nat → xCo} {n : Nat} {b : xCo} (hn : n < 8) : va_cpy (flatP p) (flat b) (129 * n) 0 129 = flat (p n) := by
  funext i
  unfold va_cpy
  by_cases h : i < 129
  · rw [if_pos ⟨by omega, by omega⟩, show 129 * n + (i - 0) = 129 * n + i by omega, flatP_in hn h]
  · rw [if_neg (by omega), flat_z (by omega), flat_z (by omega)]
theorem flat_shU {d : xCo} {u : Nat} (hu : u < 5) : va_cpy (flat d) (flat d) (66 + 11 * u + 5 + 1) (66 + 11 * u + 5) 5 = flat (cSh d u) := by
  funext i
  unfold va_cpy
  by_cases h : 66 + 11 * u + 5 ≤ i ∧ i < 66 + 11 * u + 5 + 5
  · rw [if_pos h]
    obtain ⟨k, hk, rfl⟩ : ∃ k, k < 5 ∧ i = 66 + 11 * u + (5 + k) := ⟨i - (66 + 11 * u + 5), by omega, by omega⟩
    rw [flat_U hu (by omega), show 66 + 11 * u + 5 + 1 + (66 + 11 * u + (5 + k) - (66 + 11 * u + 5)) = 66 + 11 * u + (5 + k + 1) by omega, flat_U hu (by omega), cSh_u]
    show _ = (if 5 ≤ 5 + k ∧ 5 + k < 5 + 5 then _ else _)
    rw [if_pos ⟨by omega, by omega⟩]
  · rw [if_neg h]
    by_cases h1 : i < 66
    · unfold flat
      by_cases h0 : i < 10
      · rw [if_pos h0, if_pos h0]; rfl
      · rw [if_neg h0, if_neg h0, if_pos h1, if_pos h1]; rfl
    · by_cases h2 : i < 121
      · obtain ⟨j, k, hj, hk, rfl⟩ : ∃ j k, j < 5 ∧ k < 11 ∧ i = 66 + 11 * j + k := ⟨(i - 66) / 11, (i - 66) % 11, by omega, by omega, by omega⟩
        rw [flat_U hj hk, flat_U hj hk]
        by_cases e : j = u
        · subst e
          rw [cSh_u]
          show _ = (if 5 ≤ k ∧ k < 5 + 5 then _ else _)
          rw [if_neg (by omega)]
        · rw [cSh_o e]
      · unfold flat
        have h0 : ¬ i < 10 := by omega
        rw [if_neg h0, if_neg h1, if_neg h2, if_neg h0, if_neg h1, if_neg h2]
        rfl
theorem nI_mul (a b : Nat) : nI a * nI b = nI (a * b) := (Int32.ofNat_mul a b).symm
theorem ixT {j k : Nat} : (10 : Int32) + 7 * nI j + nI k = nI (10 + 7 * j + k) := by
  rw [← nI_add, ← nI_add, ← nI_mul]; rfl
theorem ixU {j k : Nat} : (66 : Int32) + 11 * nI j + nI k = nI (66 + 11 * j + k) := by
  rw [← nI_add, ← nI_add, ← nI_mul]; rfl
theorem ixG {j : Nat} : (121 : Int32) + 2 * nI j = nI (121 + 2 * j + 0) := by
  rw [← nI_add, ← nI_add, ← nI_mul, nI_0, Int32.add_zero]; rfl
theorem ixG1 {j : Nat} : (121 : Int32) + 2 * nI j + 1 = nI (121 + 2 * j + 1) := by
  rw [← nI_add, ← nI_add, ← nI_mul]; rfl
def xAc (M : xM) (idx : Nat) : Prop := Cond.methodLink (mY M).cls idx arraycopyName ∈ mW M ∧ Cond.native arraycopyName ∈ mW M ∧ Cond.static arraycopyName ∈ mW M ∧ Cond.initialized "java/lang/System" ∈ mW M ∧ 1 ≤ (mR M).frames ∧ nativeFrameWords "java/lang/System" "arraycopy" 5 + 19 ≤ (mR M).locals
section XMODEL
variable {M M2 : xM} {E : xE} {Po : xPo} {w0 w : xW} {pc q : Nat} {L : List (Option Value)} {st : List Value} {k9 n9 : Nat} {m : Nat} {d : xCo} {r : mRs} {o : Nat → Int32} {t : mTx}
theorem r_ldS {k : Nat} (hd : decode (mC M) pc = .ok (.iaload, 1)) (hk : k < 10) (hq : pc + 1 = q) (kk : WF M E Po w0 q L (.int (d.1 k) :: st) (md E w m d r o t) k9 n9) : WF M E Po w0 pc L (.int (nI k) :: .ref (m + 1) :: st) (md E w m d r o t) k9 n9 := by
  refine r_iaload hd md_g1 (vp_in_nI (by omega) (by decide)) hq ?_
  rw [nI_cl (by omega), flat_S hk]
  exact kk
theorem r_stS {k : Nat} {x : Int32} (hd : decode (mC M) pc = .ok (.iastore, 1)) (hk : k < 10) (hq : pc + 1 = q) (kk : WF M E Po w0 q L st (md E w m (cS d k x) r o t) k9 n9) : WF M E Po w0 pc L (.int x :: .int (nI k) :: .ref (m + 1) :: st) (md E w m d r o t) k9 n9 := by
  refine r_iastore hd md_g1 (vp_in_nI (by omega) (by decide)) hq ?_
  rw [nI_cl (by omega), md_p1 (flat_uS hk) (upd_o (by omega)) (upd_o (by omega))]
  exact kk
theorem r_ldG {j k : Nat} {i : Int32} (hd : decode (mC M) pc = .ok (.iaload, 1)) (hj : j < 4) (hk : k < 2) (hi : i = nI (121 + 2 * j + k)) (hq : pc + 1 = q) (kk : WF M E Po w0 q L (.int (d.2.2.2 j k) :: st) (md E w m d r o t) k9 n9) : WF M E Po w0 pc L (.int i :: .ref (m + 1) :: st) (md E w m d r o t) k9 n9 := by
  subst hi
  refine r_iaload hd md_g1 (vp_in_nI (by omega) (by decide)) hq ?_
  rw [nI_cl (by omega), flat_G hj hk]
  exact kk
theorem r_stG {j k : Nat} {i x : Int32} (hd : decode (mC M) pc = .ok (.iastore, 1)) (hj : j < 4) (hk : k < 2) (hi : i = nI (121 + 2 * j + k)) (hq : pc + 1 = q) (kk : WF M E Po w0 q L st (md E w m (cG d j k x) r o t) k9 n9) : WF M E Po w0 pc L (.int x :: .int i :: .ref (m + 1) :: st) (md E w m d r o t) k9 n9 := by
  subst hi
  refine r_iastore hd md_g1 (vp_in_nI (by omega) (by decide)) hq ?_
  rw [nI_cl (by omega)]
  exact WF.cw (md_p1 (flat_uG hj hk) rfl rfl) kk
theorem r_ldT {j k : Nat} {i : Int32} (hd : decode (mC M) pc = .ok (.iaload, 1)) (hj : j < 8) (hk : k < 7) (hi : i = nI (10 + 7 * j + k)) (hq : pc + 1 = q) (kk : WF M E Po w0 q L (.int (d.2.1 j k) :: st) (md E w m d r o t) k9 n9) : WF M E Po w0 pc L (.int i :: .ref (m + 1) :: st) (md E w m d r o t) k9 n9 := by
  subst hi
  refine r_iaload hd md_g1 (vp_in_nI (by omega) (by decide)) hq ?_
  rw [nI_cl (by omega), flat_T hj hk]
  exact kk
theorem r_stT {j k : Nat} {i x : Int32} (hd : decode (mC M) pc = .ok (.iastore, 1)) (hj : j < 8) (hk : k < 7) (hi : i = nI (10 + 7 * j + k)) (hq : pc + 1 = q) (kk : WF M E Po w0 q L st (md E w m (cT d j k x) r o t) k9 n9) : WF M E Po w0 pc L (.int x :: .int i :: .ref (m + 1) :: st) (md E w m d r o t) k9 n9 := by
  subst hi
  refine r_iastore hd md_g1 (vp_in_nI (by omega) (by decide)) hq ?_
  rw [nI_cl (by omega)]
  exact WF.cw (md_p1 (flat_uT hj hk) rfl rfl) kk
theorem r_ldU {j k : Nat} {i : Int32} (hd : decode (mC M) pc = .ok (.iaload, 1)) (hj : j < 5) (hk : k < 11) (hi : i = nI (66 + 11 * j + k)) (hq : pc + 1 = q) (kk : WF M E Po w0 q L (.int (d.2.2.1 j k) :: st) (md E w m d r o t) k9 n9) : WF M E Po w0 pc L (.int i :: .ref (m + 1) :: st) (md E w m d r o t) k9 n9 := by
  subst hi
  refine r_iaload hd md_g1 (vp_in_nI (by omega) (by decide)) hq ?_
  rw [nI_cl (by omega), flat_U hj hk]
  exact kk
theorem r_stU {j k : Nat} {i x : Int32} (hd : decode (mC M) pc = .ok (.iastore, 1)) (hj : j < 5) (hk : k < 11) (hi : i = nI (66 + 11 * j + k)) (hq : pc + 1 = q) (kk : WF M E Po w0 q L st (md E w m (cU d j k x) r o t) k9 n9) : WF M E Po w0 pc L (.int x :: .int i :: .ref (m + 1) :: st) (md E w m d r o t) k9 n9 := by
  subst hi
  refine r_iastore hd md_g1 (vp_in_nI (by omega) (by decide)) hq ?_
  rw [nI_cl (by omega)]
  exact WF.cw (md_p1 (flat_uU hj hk) rfl rfl) kk
theorem nI_int {z : Int32} {a : Nat} (h : z = nI a) (ha : a < 2147483648) : ¬ z < 0 ∧ z.toNatClampNeg = a ∧ z.toInt = (a : Int) := by
  subst h
  exact ⟨nI_pos ha, nI_cl ha, nI_toInt ha⟩
/-- System.arraycopy between rows of ints -/
theorem r_copyi {idx a a0 n0 n1 sa da na : Nat} {f g : Nat → Int32} {sp dp nn : Int32} (hd : decode (mC M) pc = .ok (.invokestatic idx, 3)) (P : xAc M idx) (hw0 : w.1 a0 = some (.inl (E.1.2 0, n0, .inl f))) (hw1 : w.1 a = some (.inl (E.1.2 0, n1, .inl g)))
    (e1 : sp = nI sa) (e2 : dp = nI da) (e3 : nn = nI na) (h4 : sa + na ≤ n0) (h5 : da + na ≤ n1) (hb : n0 < 100000 ∧ n1 < 100000) (hrm : (st.map fun v => v.category).sum ≤ 8) (hq : pc + 3 = q)
    (kk : WF M E Po w0 q L st (xset w a (.inl (E.1.2 0, n1, .inl (va_cpy f g sa da na)))) k9 n9) : WF M E Po w0 pc L (.int nn :: .int dp :: .ref a :: .int sp :: .ref a0 :: st) w k9 n9 := by
  subst hq
  obtain ⟨i1, i2, i3⟩ := nI_int e1 (by omega)
  obtain ⟨j1, j2, j3⟩ := nI_int e2 (by omega)
  obtain ⟨l1, l2, l3⟩ := nI_int e3 (by omega)
  intro p l e s m args below meth c H locs ls C hP hs hS hl T hT X
  obtain ⟨p1, p2, p3, p4, p5, p6⟩ := P
  obtain ⟨c1, c2, c3, c4, c5, c6, c7, c8, c9, c10, c11, c12⟩ := id C
  have hK := c11.1
  have hc0 : H[a0]? = some (vp_cell (E.1.2 0) (n0, .inl f)) := hP.1 a0 _ hw0
  have hc1 : H[a]? = some (vp_cell (E.1.2 0) (n1, .inl g)) := hP.1 a _ hw1
  obtain ⟨-, k0, hk0, cm0, hkk0⟩ := (hK.2 0 (E.1.2 0, .int) rfl).1 n0 (fun j => .int (f j))
  obtain ⟨-, k1, hk1, cm1, hkk1⟩ := (hK.2 0 (E.1.2 0, .int) rfl).1 n1 (fun j => .int (g j))
  obtain ⟨vm', X', step⟩ := X.arraycopy c1 c6 (c5 _ p1) (c5 _ p2) (c5 _ p3) (c5 _ p4) (src := a0) (dst := a) (cs := vp_cell (E.1.2 0) (n0, .inl f)) (cd := vp_cell (E.1.2 0) (n1, .inl g)) (srcPos := sp) (destPos := dp) (n := nn) (by rw [hT]; exact hc0) (by rw [hT]; exact hc1)
    (fun _ h => by cases h) (fun _ h => by cases h) (fun h => by cases h) (fun h => by cases h) hk0 hk1 hkk0 hkk1 (by simp [refKind]) i1 j1 l1
    (by rw [i3, l3]; show ¬ _ > ((arrV (E.1.2 0) n0 (fun j => .int (f j))).slots.size : Int); rw [arrV_size]; omega)
    (by rw [j3, l3]; show ¬ _ > ((arrV (E.1.2 0) n1 (fun j => .int (g j))).slots.size : Int); rw [arrV_size]; omega)
    (fun vm₁ _ i hi => by
      rw [l2] at hi
      have e : (vp_cell (E.1.2 0) (n0, .inl f)).slots.getD (sp.toNatClampNeg + i) .null = .int (f (sp.toNatClampNeg + i)) := by
        show (arrV (E.1.2 0) n0 (fun j => .int (f j))).slots.getD _ _ = _
        rw [Array.getD_eq_getD_getElem?, arrV_read _ _ (by omega)]
        rfl
      refine ⟨?_, ?_⟩
      · rw [e]; rfl
      · rw [e]; exact trivial)
    (g := F0 m pc ls (.int nn :: .int dp :: .ref a :: .int sp :: .ref a0 :: st)) rfl (by rw [c4]; exact hl.1) (rest := st) rfl (by rw [c2]; exact hd) p5 (by show 2 * 0 + _ + _ ≤ _; omega)
  have e9 : copied (vp_cell (E.1.2 0) (n0, .inl f)) (vp_cell (E.1.2 0) (n1, .inl g)) sp dp nn = vp_cell (E.1.2 0) (n1, .inl (va_cpy f g sa da na)) := by
    have := va_copied (fun z => .int z) (E.1.2 0) (E.1.2 0) (n1 := n1) (dp := dp.toNatClampNeg) (n := nn.toNatClampNeg) (sp := sp.toNatClampNeg) f g (n0 := n0) (by omega)
    rw [i2, j2, l2] at this
    unfold copied
    rw [i2, j2, l2]
    exact this
  rw [e9] at X' step
  have hlt : a < H.size := (Array.getElem?_eq_some_iff.mp hc1).1
  have ha := hs a (xsome hw1)
  generalize hce : vp_cell (E.1.2 0) (n1, .inl (va_cpy f g sa da na)) = ce at X' step
  have hheap : ((T.setVm vm').setCell a ce).heap = H.setIfInBounds a ce := by rw [← hT]; rfl
  have oq : ∀ q : Nat, q ≠ a → (H.setIfInBounds a ce)[q]? = H[q]? := fun q hq => by simp [Array.getElem?_setIfInBounds, Ne.symm hq]
  obtain ⟨t, a1, b1⟩ := kk p l e s m args below meth c _ _ ls C (hP.put (a := a) (H1 := H.setIfInBounds a ce) (show (H.setIfInBounds a ce)[a]? = some _ by rw [← hce]; simp [Array.getElem?_setIfInBounds, hlt]) oq (by simp)) (hs.put ha) ⟨by simp; exact hS.1, fun q g1 g2 => by
      rw [oq q (fun e => g2 (by rw [e]; exact ha))]
      exact hS.2.1 q g1 g2, fun q hq => by
      rcases List.mem_append.mp hq with h | h
      · exact hS.2.2 q h
      · obtain ⟨z, -, hz⟩ := List.mem_map.mp h
        rw [← hz]
        exact ha⟩ hl _ hheap X'
  exact ⟨t, step t a1, b1⟩
end XMODEL

theorem v171 : (Jvm.Cond.native ({ cls := "java/lang/System", name := "arraycopy", desc := "(Ljava/lang/Object;ILjava/lang/Object;II)V" } : Jvm.MethodName)) ∈ xAll := xin4 (List.mem_of_getElem? (i := 216) (by decide +kernel)) (by decide +kernel)
theorem v172 : (Jvm.Cond.static ({ cls := "java/lang/System", name := "arraycopy", desc := "(Ljava/lang/Object;ILjava/lang/Object;II)V" } : Jvm.MethodName)) ∈ xAll := xin4 (List.mem_of_getElem? (i := 215) (by decide +kernel)) (by decide +kernel)
theorem v173 : (Jvm.Cond.initialized "java/lang/System") ∈ xAll := xin1 (List.mem_of_getElem? (i := 23) (by decide +kernel)) (by decide +kernel)
theorem v174 : (Jvm.Cond.methodLink "TubHireModel" (66 : Nat) ({ cls := "java/lang/System", name := "arraycopy", desc := "(Ljava/lang/Object;ILjava/lang/Object;II)V" } : Jvm.MethodName)) ∈ xAll := xin7 (List.mem_of_getElem? (i := 40) (by decide +kernel)) (by decide +kernel)
theorem a_X10_keep_66 : xAc M_X10_keep 66 := ⟨List.mem_cons_of_mem _ v174, List.mem_cons_of_mem _ v171, List.mem_cons_of_mem _ v172, List.mem_cons_of_mem _ v173, Nat.le_of_ble_eq_true rfl, Nat.le_of_ble_eq_true rfl⟩
theorem a_X10_ends_66 : xAc M_X10_ends 66 := ⟨List.mem_cons_of_mem _ v174, List.mem_cons_of_mem _ v171, List.mem_cons_of_mem _ v172, List.mem_cons_of_mem _ v173, Nat.le_of_ble_eq_true rfl, Nat.le_of_ble_eq_true rfl⟩
theorem a_X10_bathes_66 : xAc M_X10_bathes 66 := ⟨List.mem_cons_of_mem _ v174, List.mem_cons_of_mem _ v171, List.mem_cons_of_mem _ v172, List.mem_cons_of_mem _ v173, Nat.le_of_ble_eq_true rfl, Nat.le_of_ble_eq_true rfl⟩
theorem a_X10_bathesIn_66 : xAc M_X10_bathesIn 66 := ⟨List.mem_cons_of_mem _ v174, List.mem_cons_of_mem _ v171, List.mem_cons_of_mem _ v172, List.mem_cons_of_mem _ v173, Nat.le_of_ble_eq_true rfl, Nat.le_of_ble_eq_true rfl⟩
theorem a_X10_undo_66 : xAc M_X10_undo 66 := ⟨List.mem_cons_of_mem _ v174, List.mem_cons_of_mem _ v171, List.mem_cons_of_mem _ v172, List.mem_cons_of_mem _ v173, Nat.le_of_ble_eq_true rfl, Nat.le_of_ble_eq_true rfl⟩
theorem a_X10_saveSnapshot_66 : xAc M_X10_saveSnapshot 66 := ⟨List.mem_cons_of_mem _ v174, List.mem_cons_of_mem _ v171, List.mem_cons_of_mem _ v172, List.mem_cons_of_mem _ v173, Nat.le_of_ble_eq_true rfl, Nat.le_of_ble_eq_true rfl⟩
theorem a_X10_restoreSnapshot_66 : xAc M_X10_restoreSnapshot 66 := ⟨List.mem_cons_of_mem _ v174, List.mem_cons_of_mem _ v171, List.mem_cons_of_mem _ v172, List.mem_cons_of_mem _ v173, Nat.le_of_ble_eq_true rfl, Nat.le_of_ble_eq_true rfl⟩
set_option maxRecDepth 100000 in
set_option maxHeartbeats 4000000 in
theorem ct_X10_thrown {E : xE} {Po : xPo} {w : xW} {m : Nat} {d : xCo} {r : mRs} {o : Nat → Int32} {t : mTx}  (hp : Po (.inl (some (.int (o 2)))) (md E w m d r o t)) : Ct M_X10_thrown E [.ref m] (md E w m d r o t) Po := by
  refine Ct.of (ws2 := xAll) (L := [some (.ref m)]) (by decide +kernel) rfl rfl (List.forall_mem_cons.mpr ⟨rfl, fun _ h => absurd h List.not_mem_nil⟩) (Nat.le_of_ble_eq_true rfl) rfl ?_
  refine r_aload_n (q := 1) dX10_thrown_0 rfl rfl rfl ?_
  refine r_getfield (q := 4) dX10_thrown_1 f_X10_thrown_63 md_g0 rfl rfl ?_
  refine r_iret dX10_thrown_4 rfl (Nat.le_of_ble_eq_true rfl) (Nat.le_of_ble_eq_true rfl) ?_
  exact hp
set_option maxRecDepth 100000 in
set_option maxHeartbeats 4000000 in
theorem ct_X10_in {E : xE} {Po : xPo} {w : xW} {x a b : Int32} (h1 : ¬ (x < a ∨ b < x) → Po (.inl (some (.int 1))) w) (h0 : x < a ∨ b < x → Po (.inl (some (.int 0))) w) : Ct M_X10_in E [.int x, .int a, .int b] w Po := by
  refine Ct.of (ws2 := xAll) (L := [some (.int x), some (.int a), some (.int b)]) (by decide +kernel) rfl rfl (List.forall_mem_cons.mpr ⟨rfl, List.forall_mem_cons.mpr ⟨rfl, List.forall_mem_cons.mpr ⟨rfl, fun _ h => absurd h List.not_mem_nil⟩⟩⟩) (Nat.le_of_ble_eq_true rfl) rfl ?_
  refine r_iload_n (q := 1) dX10_in_0 rfl rfl rfl ?_
  refine r_iload_n (q := 2) dX10_in_1 rfl rfl rfl ?_
  refine r_icmp_lt (q := 14) (q2 := 5) dX10_in_2 (by decide) rfl (fun h2 => ?_) (fun h2 => ?_)
  · refine r_iconst (q := 15) (v := 0) dX10_in_14 rfl rfl ?_
    refine r_zret dX10_in_15 rfl (by decide) (Nat.le_of_ble_eq_true rfl) (Nat.le_of_ble_eq_true rfl) ?_
    exact h0 (Or.inl h2)
  · refine r_iload_n (q := 6) dX10_in_5 rfl rfl rfl ?_
    refine r_iload_n (q := 7) dX10_in_6 rfl rfl rfl ?_
    refine r_icmp_gt (q := 14) (q2 := 10) dX10_in_7 (by decide) rfl (fun h7 => ?_) (fun h7 => ?_)
    · refine r_iconst (q := 15) (v := 0) dX10_in_14 rfl rfl ?_
      refine r_zret dX10_in_15 rfl (by decide) (Nat.le_of_ble_eq_true rfl) (Nat.le_of_ble_eq_true rfl) ?_
      exact h0 (Or.inr h7)
    · refine r_iconst (q := 11) (v := 1) dX10_in_10 rfl rfl ?_
      refine r_goto (q := 15) dX10_in_11 (by decide) ?_
      refine r_zret dX10_in_15 rfl (by decide) (Nat.le_of_ble_eq_true rfl) (Nat.le_of_ble_eq_true rfl) ?_
      exact h1 (fun h => h.elim h2 h7)
set_option maxRecDepth 100000 in
set_option maxHeartbeats 4000000 in
theorem ct_X10_keep {E : xE} {Po : xPo} {w : xW} {m : Nat} {d : xCo} {r : mRs} {o : Nat → Int32} {t : mTx}  (hp : Po (.inl none) (md E w m d (d, r.2) (upd o 2 0) t)) : Ct M_X10_keep E [.ref m] (md E w m d r o t) Po := by
  refine Ct.of (ws2 := xAll) (L := [some (.ref m)]) (by decide +kernel) rfl rfl (List.forall_mem_cons.mpr ⟨rfl, fun _ h => absurd h List.not_mem_nil⟩) (Nat.le_of_ble_eq_true rfl) rfl ?_
  refine r_aload_n (q := 1) dX10_keep_0 rfl rfl rfl ?_
  refine r_iconst (q := 2) (v := 0) dX10_keep_1 rfl rfl ?_
  refine r_putfield (q := 5) dX10_keep_2 f_X10_keep_63 md_g0 rfl rfl (by exact Nat.le_of_ble_eq_true rfl) rfl ?_
  refine WF.cw (md_po (i := 2)) ?_
  refine r_aload_n (q := 6) dX10_keep_5 rfl rfl rfl ?_
  refine r_getfield (q := 9) dX10_keep_6 f_X10_keep_9 md_g0 rfl rfl ?_
  refine r_iconst (q := 10) (v := 0) dX10_keep_9 rfl rfl ?_
  refine r_aload_n (q := 11) dX10_keep_10 rfl rfl rfl ?_
  refine r_getfield (q := 14) dX10_keep_11 f_X10_keep_13 md_g0 rfl rfl ?_
  refine r_iconst (q := 15) (v := 0) dX10_keep_14 rfl rfl ?_
  refine r_sipush (q := 18) (v := 129) dX10_keep_15 (by decide) rfl ?_
  refine r_copyi (q := 21) dX10_keep_18 a_X10_keep_66 md_g1 md_g2 (sa := 0) (da := 0) (na := 129) rfl rfl rfl (by decide) (by decide) (by decide) (Nat.le_of_ble_eq_true rfl) rfl ?_
  refine WF.cw (md_p2 flat_cp) ?_
  refine r_vret dX10_keep_21 rfl (Nat.le_of_ble_eq_true rfl) (Nat.le_of_ble_eq_true rfl) ?_
  exact hp
set_option maxRecDepth 100000 in
set_option maxHeartbeats 4000000 in
theorem ct_X10_fails {E : xE} {Po : xPo} {w : xW} {m : Nat} {d : xCo} {r : mRs} {o : Nat → Int32} {t : mTx} {x : Int32} (hp : Po (.inl (some (.int 0))) (md E w m d r (upd o 2 x) t)) : Ct M_X10_fails E [.ref m, .int x] (md E w m d r o t) Po := by
  refine Ct.of (ws2 := xAll) (L := [some (.ref m), some (.int x)]) (by decide +kernel) rfl rfl (List.forall_mem_cons.mpr ⟨rfl, List.forall_mem_cons.mpr ⟨rfl, fun _ h => absurd h List.not_mem_nil⟩⟩) (Nat.le_of_ble_eq_true rfl) rfl ?_
  refine r_aload_n (q := 1) dX10_fails_0 rfl rfl rfl ?_
  refine r_iload_n (q := 2) dX10_fails_1 rfl rfl rfl ?_
  refine r_putfield (q := 5) dX10_fails_2 f_X10_fails_63 md_g0 rfl rfl (by exact Nat.le_of_ble_eq_true rfl) rfl ?_
  refine WF.cw (md_po (i := 2)) ?_
  refine r_iconst (q := 6) (v := 0) dX10_fails_5 rfl rfl ?_
  refine r_iret dX10_fails_6 rfl (Nat.le_of_ble_eq_true rfl) (Nat.le_of_ble_eq_true rfl) ?_
  exact hp
set_option maxRecDepth 100000 in
set_option maxHeartbeats 4000000 in
theorem ct_X10_refuse {E : xE} {Po : xPo} {w : xW} {m : Nat} {d : xCo} {r : mRs} {o : Nat → Int32} {t : mTx} {a b c : Int32} (hp : Po (.inl (some (.int 0))) (md E w m (cR d b c) r (upd (upd o 2 a) 5 1) t)) : Ct M_X10_refuse E [.ref m, .int a, .int b, .int c] (md E w m d r o t) Po := by
  refine Ct.of (ws2 := xAll) (L := [some (.ref m), some (.int a), some (.int b), some (.int c)]) (by decide +kernel) rfl rfl (List.forall_mem_cons.mpr ⟨rfl, List.forall_mem_cons.mpr ⟨rfl, List.forall_mem_cons.mpr ⟨rfl, List.forall_mem_cons.mpr ⟨rfl, fun _ h => absurd h List.not_mem_nil⟩⟩⟩⟩) (Nat.le_of_ble_eq_true rfl) rfl ?_
  refine r_aload_n (q := 1) dX10_refuse_0 rfl rfl rfl ?_
  refine r_iload_n (q := 2) dX10_refuse_1 rfl rfl rfl ?_
  refine r_putfield (q := 5) dX10_refuse_2 f_X10_refuse_63 md_g0 rfl rfl (by exact Nat.le_of_ble_eq_true rfl) rfl ?_
  refine WF.cw (md_po (i := 2)) ?_
  refine r_aload_n (q := 6) dX10_refuse_5 rfl rfl rfl ?_
  refine r_iload_n (q := 7) dX10_refuse_6 rfl rfl rfl ?_
  refine r_putfield (q := 10) dX10_refuse_7 f_X10_refuse_75 md_g0 rfl rfl (by exact Nat.le_of_ble_eq_true rfl) rfl ?_
  refine WF.cw (md_pr (k := 10) (by decide)) ?_
  refine r_aload_n (q := 11) dX10_refuse_10 rfl rfl rfl ?_
  refine r_iload_n (q := 12) dX10_refuse_11 rfl rfl rfl ?_
  refine r_putfield (q := 15) dX10_refuse_12 f_X10_refuse_78 md_g0 rfl rfl (by exact Nat.le_of_ble_eq_true rfl) rfl ?_
  refine WF.cw (md_pr (k := 11) (by decide)) ?_
  refine r_aload_n (q := 16) dX10_refuse_15 rfl rfl rfl ?_
  refine r_iconst (q := 17) (v := 1) dX10_refuse_16 rfl rfl ?_
  refine r_putfield (q := 20) dX10_refuse_17 f_X10_refuse_81 md_g0 rfl rfl (by exact Nat.le_of_ble_eq_true rfl) rfl ?_
  refine WF.cw (md_po (i := 5)) ?_
  refine r_iconst (q := 21) (v := 0) dX10_refuse_20 rfl rfl ?_
  refine r_iret dX10_refuse_21 rfl (Nat.le_of_ble_eq_true rfl) (Nat.le_of_ble_eq_true rfl) ?_
  exact hp
set_option maxRecDepth 100000 in
set_option maxHeartbeats 4000000 in
theorem ct_X10_tub1 {E : xE} {Po : xPo} {w : xW} {m : Nat} {d : xCo} {r : mRs} {o : Nat → Int32} {t : mTx} {j k : Nat} (hj : j < 8) (hk : k < 7) (hp : Po (.inl (some (.int (d.2.1 j k)))) (md E w m d r o t)) : Ct M_X10_tub1 E [.ref m, .int (nI j), .int (nI k)] (md E w m d r o t) Po := by
  refine Ct.of (ws2 := xAll) (L := [some (.ref m), some (.int (nI j)), some (.int (nI k))]) (by decide +kernel) rfl rfl (List.forall_mem_cons.mpr ⟨rfl, List.forall_mem_cons.mpr ⟨rfl, List.forall_mem_cons.mpr ⟨rfl, fun _ h => absurd h List.not_mem_nil⟩⟩⟩) (Nat.le_of_ble_eq_true rfl) rfl ?_
  refine r_aload_n (q := 1) dX10_tub1_0 rfl rfl rfl ?_
  refine r_getfield (q := 4) dX10_tub1_1 f_X10_tub1_9 md_g0 rfl rfl ?_
  refine r_bipush (q := 6) (v := 10) dX10_tub1_4 (by decide) rfl ?_
  refine r_bipush (q := 8) (v := 7) dX10_tub1_6 (by decide) rfl ?_
  refine r_iload_n (q := 9) dX10_tub1_8 rfl rfl rfl ?_
  refine r_imul (q := 10) dX10_tub1_9 rfl ?_
  refine r_iadd (q := 11) dX10_tub1_10 rfl ?_
  refine r_iload_n (q := 12) dX10_tub1_11 rfl rfl rfl ?_
  refine r_iadd (q := 13) dX10_tub1_12 rfl ?_
  refine r_ldT (q := 14) dX10_tub1_13 hj hk ixT rfl ?_
  refine r_iret dX10_tub1_14 rfl (Nat.le_of_ble_eq_true rfl) (Nat.le_of_ble_eq_true rfl) ?_
  exact hp
set_option maxRecDepth 100000 in
set_option maxHeartbeats 4000000 in
theorem ct_X10_setTub {E : xE} {Po : xPo} {w : xW} {m : Nat} {d : xCo} {r : mRs} {o : Nat → Int32} {t : mTx} {j k : Nat} {x : Int32} (hj : j < 8) (hk : k < 7) (hp : Po (.inl none) (md E w m (cT d j k x) r o t)) : Ct M_X10_setTub E [.ref m, .int (nI j), .int (nI k), .int x] (md E w m d r o t) Po := by
  refine Ct.of (ws2 := xAll) (L := [some (.ref m), some (.int (nI j)), some (.int (nI k)), some (.int x)]) (by decide +kernel) rfl rfl (List.forall_mem_cons.mpr ⟨rfl, List.forall_mem_cons.mpr ⟨rfl, List.forall_mem_cons.mpr ⟨rfl, List.forall_mem_cons.mpr ⟨rfl, fun _ h => absurd h List.not_mem_nil⟩⟩⟩⟩) (Nat.le_of_ble_eq_true rfl) rfl ?_
  refine r_aload_n (q := 1) dX10_setTub_0 rfl rfl rfl ?_
  refine r_getfield (q := 4) dX10_setTub_1 f_X10_setTub_9 md_g0 rfl rfl ?_
  refine r_bipush (q := 6) (v := 10) dX10_setTub_4 (by decide) rfl ?_
  refine r_bipush (q := 8) (v := 7) dX10_setTub_6 (by decide) rfl ?_
  refine r_iload_n (q := 9) dX10_setTub_8 rfl rfl rfl ?_
  refine r_imul (q := 10) dX10_setTub_9 rfl ?_
  refine r_iadd (q := 11) dX10_setTub_10 rfl ?_
  refine r_iload_n (q := 12) dX10_setTub_11 rfl rfl rfl ?_
  refine r_iadd (q := 13) dX10_setTub_12 rfl ?_
  refine r_iload_n (q := 14) dX10_setTub_13 rfl rfl rfl ?_
  refine r_stT (q := 15) dX10_setTub_14 hj hk ixT rfl ?_
  refine r_vret dX10_setTub_15 rfl (Nat.le_of_ble_eq_true rfl) (Nat.le_of_ble_eq_true rfl) ?_
  exact hp
set_option maxRecDepth 100000 in
set_option maxHeartbeats 4000000 in
theorem ct_X10_tent1 {E : xE} {Po : xPo} {w : xW} {m : Nat} {d : xCo} {r : mRs} {o : Nat → Int32} {t : mTx} {j k : Nat} (hj : j < 5) (hk : k < 11) (hp : Po (.inl (some (.int (d.2.2.1 j k)))) (md E w m d r o t)) : Ct M_X10_tent1 E [.ref m, .int (nI j), .int (nI k)] (md E w m d r o t) Po := by
  refine Ct.of (ws2 := xAll) (L := [some (.ref m), some (.int (nI j)), some (.int (nI k))]) (by decide +kernel) rfl rfl (List.forall_mem_cons.mpr ⟨rfl, List.forall_mem_cons.mpr ⟨rfl, List.forall_mem_cons.mpr ⟨rfl, fun _ h => absurd h List.not_mem_nil⟩⟩⟩) (Nat.le_of_ble_eq_true rfl) rfl ?_
  refine r_aload_n (q := 1) dX10_tent1_0 rfl rfl rfl ?_
  refine r_getfield (q := 4) dX10_tent1_1 f_X10_tent1_9 md_g0 rfl rfl ?_
  refine r_bipush (q := 6) (v := 66) dX10_tent1_4 (by decide) rfl ?_
  refine r_bipush (q := 8) (v := 11) dX10_tent1_6 (by decide) rfl ?_
  refine r_iload_n (q := 9) dX10_tent1_8 rfl rfl rfl ?_
  refine r_imul (q := 10) dX10_tent1_9 rfl ?_
  refine r_iadd (q := 11) dX10_tent1_10 rfl ?_
  refine r_iload_n (q := 12) dX10_tent1_11 rfl rfl rfl ?_
  refine r_iadd (q := 13) dX10_tent1_12 rfl ?_
  refine r_ldU (q := 14) dX10_tent1_13 hj hk ixU rfl ?_
  refine r_iret dX10_tent1_14 rfl (Nat.le_of_ble_eq_true rfl) (Nat.le_of_ble_eq_true rfl) ?_
  exact hp
set_option maxRecDepth 100000 in
set_option maxHeartbeats 4000000 in
theorem ct_X10_setTent {E : xE} {Po : xPo} {w : xW} {m : Nat} {d : xCo} {r : mRs} {o : Nat → Int32} {t : mTx} {j k : Nat} {x : Int32} (hj : j < 5) (hk : k < 11) (hp : Po (.inl none) (md E w m (cU d j k x) r o t)) : Ct M_X10_setTent E [.ref m, .int (nI j), .int (nI k), .int x] (md E w m d r o t) Po := by
  refine Ct.of (ws2 := xAll) (L := [some (.ref m), some (.int (nI j)), some (.int (nI k)), some (.int x)]) (by decide +kernel) rfl rfl (List.forall_mem_cons.mpr ⟨rfl, List.forall_mem_cons.mpr ⟨rfl, List.forall_mem_cons.mpr ⟨rfl, List.forall_mem_cons.mpr ⟨rfl, fun _ h => absurd h List.not_mem_nil⟩⟩⟩⟩) (Nat.le_of_ble_eq_true rfl) rfl ?_
  refine r_aload_n (q := 1) dX10_setTent_0 rfl rfl rfl ?_
  refine r_getfield (q := 4) dX10_setTent_1 f_X10_setTent_9 md_g0 rfl rfl ?_
  refine r_bipush (q := 6) (v := 66) dX10_setTent_4 (by decide) rfl ?_
  refine r_bipush (q := 8) (v := 11) dX10_setTent_6 (by decide) rfl ?_
  refine r_iload_n (q := 9) dX10_setTent_8 rfl rfl rfl ?_
  refine r_imul (q := 10) dX10_setTent_9 rfl ?_
  refine r_iadd (q := 11) dX10_setTent_10 rfl ?_
  refine r_iload_n (q := 12) dX10_setTent_11 rfl rfl rfl ?_
  refine r_iadd (q := 13) dX10_setTent_12 rfl ?_
  refine r_iload_n (q := 14) dX10_setTent_13 rfl rfl rfl ?_
  refine r_stU (q := 15) dX10_setTent_14 hj hk ixU rfl ?_
  refine r_vret dX10_setTent_15 rfl (Nat.le_of_ble_eq_true rfl) (Nat.le_of_ble_eq_true rfl) ?_
  exact hp
set_option maxRecDepth 100000 in
set_option maxHeartbeats 4000000 in
theorem ct_X10_gasOf {E : xE} {Po : xPo} {w : xW} {m : Nat} {d : xCo} {r : mRs} {o : Nat → Int32} {t : mTx} {j : Nat} (hj : j < 4) (hp : Po (.inl (some (.int (d.2.2.2 j 0)))) (md E w m d r o t)) : Ct M_X10_gasOf E [.ref m, .int (nI j)] (md E w m d r o t) Po := by
  refine Ct.of (ws2 := xAll) (L := [some (.ref m), some (.int (nI j))]) (by decide +kernel) rfl rfl (List.forall_mem_cons.mpr ⟨rfl, List.forall_mem_cons.mpr ⟨rfl, fun _ h => absurd h List.not_mem_nil⟩⟩) (Nat.le_of_ble_eq_true rfl) rfl ?_
  refine r_aload_n (q := 1) dX10_gasOf_0 rfl rfl rfl ?_
  refine r_getfield (q := 4) dX10_gasOf_1 f_X10_gasOf_9 md_g0 rfl rfl ?_
  refine r_bipush (q := 6) (v := 121) dX10_gasOf_4 (by decide) rfl ?_
  refine r_iconst (q := 7) (v := 2) dX10_gasOf_6 rfl rfl ?_
  refine r_iload_n (q := 8) dX10_gasOf_7 rfl rfl rfl ?_
  refine r_imul (q := 9) dX10_gasOf_8 rfl ?_
  refine r_iadd (q := 10) dX10_gasOf_9 rfl ?_
  refine r_ldG (q := 11) (k := 0) dX10_gasOf_10 hj (by decide) ixG rfl ?_
  refine r_iret dX10_gasOf_11 rfl (Nat.le_of_ble_eq_true rfl) (Nat.le_of_ble_eq_true rfl) ?_
  exact hp
set_option maxRecDepth 100000 in
set_option maxHeartbeats 4000000 in
theorem ct_X10_tentOfHeater {E : xE} {Po : xPo} {w : xW} {m : Nat} {d : xCo} {r : mRs} {o : Nat → Int32} {t : mTx} {j : Nat} (hj : j < 4) (hp : Po (.inl (some (.int (d.2.2.2 j 1)))) (md E w m d r o t)) : Ct M_X10_tentOfHeater E [.ref m, .int (nI j)] (md E w m d r o t) Po := by
  refine Ct.of (ws2 := xAll) (L := [some (.ref m), some (.int (nI j))]) (by decide +kernel) rfl rfl (List.forall_mem_cons.mpr ⟨rfl, List.forall_mem_cons.mpr ⟨rfl, fun _ h => absurd h List.not_mem_nil⟩⟩) (Nat.le_of_ble_eq_true rfl) rfl ?_
  refine r_aload_n (q := 1) dX10_tentOfHeater_0 rfl rfl rfl ?_
  refine r_getfield (q := 4) dX10_tentOfHeater_1 f_X10_tentOfHeater_9 md_g0 rfl rfl ?_
  refine r_bipush (q := 6) (v := 121) dX10_tentOfHeater_4 (by decide) rfl ?_
  refine r_iconst (q := 7) (v := 2) dX10_tentOfHeater_6 rfl rfl ?_
  refine r_iload_n (q := 8) dX10_tentOfHeater_7 rfl rfl rfl ?_
  refine r_imul (q := 9) dX10_tentOfHeater_8 rfl ?_
  refine r_iadd (q := 10) dX10_tentOfHeater_9 rfl ?_
  refine r_iconst (q := 11) (v := 1) dX10_tentOfHeater_10 rfl rfl ?_
  refine r_iadd (q := 12) dX10_tentOfHeater_11 rfl ?_
  refine r_ldG (q := 13) (k := 1) dX10_tentOfHeater_12 hj (by decide) ixG1 rfl ?_
  refine r_iret dX10_tentOfHeater_13 rfl (Nat.le_of_ble_eq_true rfl) (Nat.le_of_ble_eq_true rfl) ?_
  exact hp
theorem nI_pm1 {N : Nat} (h : N < 100000) : (nI N - 1).toInt = (N : Int) - 1 := by
  cases N with
  | zero => decide
  | succ n => rw [nI_pred, nI_toInt (by omega)]; omega
theorem in_cnt {t : Int32} {N K : Nat} (hN : N ≤ K) (hK : K < 1000) : ¬ (t < 0 ∨ nI N - 1 < t) ↔ (¬ t < 0 ∧ ¬ nI N ≤ t ∧ ¬ nI K ≤ t) := by
  rw [Int32.lt_iff_toInt_lt, Int32.lt_iff_toInt_lt, Int32.le_iff_toInt_le, Int32.le_iff_toInt_le, nI_pm1 (by omega), nI_toInt (by omega), nI_toInt (by omega)]
  omega
theorem inT {d : xCo} {t : Int32} (h : inC d) : ¬ (t < 0 ∨ d.1 1 - 1 < t) ↔ okT d t := by
  obtain ⟨⟨N, hN, e⟩, -⟩ := h
  show _ ↔ (¬ t < 0 ∧ ¬ d.1 1 ≤ t ∧ ¬ (8 : Int32) ≤ t)
  rw [e]
  exact in_cnt (K := 8) hN (by decide)
theorem inU {d : xCo} {t : Int32} (h : inC d) : ¬ (t < 0 ∨ d.1 2 - 1 < t) ↔ okU d t := by
  obtain ⟨-, ⟨N, hN, e⟩, -⟩ := h
  show _ ↔ (¬ t < 0 ∧ ¬ d.1 2 ≤ t ∧ ¬ (5 : Int32) ≤ t)
  rw [e]
  exact in_cnt (K := 5) hN (by decide)
theorem inG {d : xCo} {t : Int32} (h : inC d) : ¬ (t < 0 ∨ d.1 3 - 1 < t) ↔ okG d t := by
  obtain ⟨-, -, ⟨N, hN, e⟩, -⟩ := h
  show _ ↔ (¬ t < 0 ∧ ¬ d.1 3 ≤ t ∧ ¬ (4 : Int32) ≤ t)
  rw [e]
  exact in_cnt (K := 4) hN (by decide)
theorem inSm {s : Int32} : (s < 0 ∨ 7 < s) ↔ (s < 0 ∨ 8 ≤ s) := by
  rw [Int32.lt_iff_toInt_lt, Int32.lt_iff_toInt_lt, Int32.le_iff_toInt_le, show (7 : Int32).toInt = 7 from rfl, show (8 : Int32).toInt = 8 from rfl]
  omega
theorem and1 (y : Int32) : y &&& 1 = 0 ∨ y &&& 1 = 1 := by
  have e : (y &&& 1).toBitVec.toNat = y.toBitVec.toNat % 2 := by
    show (y.toBitVec &&& (1 : Int32).toBitVec).toNat = _
    rw [BitVec.toNat_and]
    exact Nat.and_one_is_mod _
  rcases (show y.toBitVec.toNat % 2 = 0 ∨ y.toBitVec.toNat % 2 = 1 by omega) with h | h
  · exact Or.inl (Int32.toBitVec_inj.mp (BitVec.eq_of_toNat_eq (e.trans h)))
  · exact Or.inr (Int32.toBitVec_inj.mp (BitVec.eq_of_toNat_eq (e.trans h)))
theorem and1n {y : Int32} (h : ¬ y &&& 1 = 0) : y &&& 1 = 1 := (and1 y).resolve_left h
set_option maxRecDepth 100000 in
set_option maxHeartbeats 4000000 in
theorem ct_X10_isTub {E : xE} {Po : xPo} {w : xW} {m : Nat} {d : xCo} {r : mRs} {o : Nat → Int32} {t : mTx} {x : Int32} (hc : inC d) (h1 : okT d x → Po (.inl (some (.int 1))) (md E w m d r o t)) (h0 : ¬ okT d x → Po (.inl (some (.int 0))) (md E w m d r o t)) : Ct M_X10_isTub E [.ref m, .int x] (md E w m d r o t) Po := by
  refine Ct.of (ws2 := xAll) (L := [some (.ref m), some (.int x)]) (by decide +kernel) rfl rfl (List.forall_mem_cons.mpr ⟨rfl, List.forall_mem_cons.mpr ⟨rfl, fun _ h => absurd h List.not_mem_nil⟩⟩) (Nat.le_of_ble_eq_true rfl) rfl ?_
  refine r_iload_n (q := 1) dX10_isTub_0 rfl rfl rfl ?_
  refine r_iconst (q := 2) (v := 0) dX10_isTub_1 rfl rfl ?_
  refine r_aload_n (q := 3) dX10_isTub_2 rfl rfl rfl ?_
  refine r_getfield (q := 6) dX10_isTub_3 f_X10_isTub_9 md_g0 rfl rfl ?_
  refine r_iconst (q := 7) (v := 1) dX10_isTub_6 rfl rfl ?_
  refine r_ldS (q := 8) (k := 1) dX10_isTub_7 (by decide) rfl ?_
  refine r_iconst (q := 9) (v := 1) dX10_isTub_8 rfl rfl ?_
  refine r_isub (q := 10) dX10_isTub_9 rfl ?_
  refine r_callS (q := 13) (As := [_, _, _]) dX10_isTub_10 s_X10_isTub_85 rfl rfl (Nat.le_of_ble_eq_true rfl) rfl rfl rfl (Nat.le_of_ble_eq_true rfl) (Nat.le_of_ble_eq_true rfl) ⟨(Nat.le_of_ble_eq_true rfl), (Nat.le_of_ble_eq_true rfl)⟩ rfl ?_
  refine ct_X10_in (fun h => ?_) (fun h => ?_)
  · show WF _ E Po _ _ _ _ _ _ _
    have h9 := h1 ((inT hc).mp h)
    refine r_zret dX10_isTub_13 rfl (by decide) (Nat.le_of_ble_eq_true rfl) (Nat.le_of_ble_eq_true rfl) ?_
    exact h9
  · show WF _ E Po _ _ _ _ _ _ _
    have h9 := h0 (fun z => (inT hc).mpr z h)
    refine r_zret dX10_isTub_13 rfl (by decide) (Nat.le_of_ble_eq_true rfl) (Nat.le_of_ble_eq_true rfl) ?_
    exact h9
set_option maxRecDepth 100000 in
set_option maxHeartbeats 4000000 in
theorem ct_X10_isTent {E : xE} {Po : xPo} {w : xW} {m : Nat} {d : xCo} {r : mRs} {o : Nat → Int32} {t : mTx} {x : Int32} (hc : inC d) (h1 : okU d x → Po (.inl (some (.int 1))) (md E w m d r o t)) (h0 : ¬ okU d x → Po (.inl (some (.int 0))) (md E w m d r o t)) : Ct M_X10_isTent E [.ref m, .int x] (md E w m d r o t) Po := by
  refine Ct.of (ws2 := xAll) (L := [some (.ref m), some (.int x)]) (by decide +kernel) rfl rfl (List.forall_mem_cons.mpr ⟨rfl, List.forall_mem_cons.mpr ⟨rfl, fun _ h => absurd h List.not_mem_nil⟩⟩) (Nat.le_of_ble_eq_true rfl) rfl ?_
  refine r_iload_n (q := 1) dX10_isTent_0 rfl rfl rfl ?_
  refine r_iconst (q := 2) (v := 0) dX10_isTent_1 rfl rfl ?_
  refine r_aload_n (q := 3) dX10_isTent_2 rfl rfl rfl ?_
  refine r_getfield (q := 6) dX10_isTent_3 f_X10_isTent_9 md_g0 rfl rfl ?_
  refine r_iconst (q := 7) (v := 2) dX10_isTent_6 rfl rfl ?_
  refine r_ldS (q := 8) (k := 2) dX10_isTent_7 (by decide) rfl ?_
  refine r_iconst (q := 9) (v := 1) dX10_isTent_8 rfl rfl ?_
  refine r_isub (q := 10) dX10_isTent_9 rfl ?_
  refine r_callS (q := 13) (As := [_, _, _]) dX10_isTent_10 s_X10_isTent_85 rfl rfl (Nat.le_of_ble_eq_true rfl) rfl rfl rfl (Nat.le_of_ble_eq_true rfl) (Nat.le_of_ble_eq_true rfl) ⟨(Nat.le_of_ble_eq_true rfl), (Nat.le_of_ble_eq_true rfl)⟩ rfl ?_
  refine ct_X10_in (fun h => ?_) (fun h => ?_)
  · show WF _ E Po _ _ _ _ _ _ _
    have h9 := h1 ((inU hc).mp h)
    refine r_zret dX10_isTent_13 rfl (by decide) (Nat.le_of_ble_eq_true rfl) (Nat.le_of_ble_eq_true rfl) ?_
    exact h9
  · show WF _ E Po _ _ _ _ _ _ _
    have h9 := h0 (fun z => (inU hc).mpr z h)
    refine r_zret dX10_isTent_13 rfl (by decide) (Nat.le_of_ble_eq_true rfl) (Nat.le_of_ble_eq_true rfl) ?_
    exact h9
set_option maxRecDepth 100000 in
set_option maxHeartbeats 4000000 in
theorem ct_X10_isHeater {E : xE} {Po : xPo} {w : xW} {m : Nat} {d : xCo} {r : mRs} {o : Nat → Int32} {t : mTx} {x : Int32} (hc : inC d) (h1 : okG d x → Po (.inl (some (.int 1))) (md E w m d r o t)) (h0 : ¬ okG d x → Po (.inl (some (.int 0))) (md E w m d r o t)) : Ct M_X10_isHeater E [.ref m, .int x] (md E w m d r o t) Po := by
  refine Ct.of (ws2 := xAll) (L := [some (.ref m), some (.int x)]) (by decide +kernel) rfl rfl (List.forall_mem_cons.mpr ⟨rfl, List.forall_mem_cons.mpr ⟨rfl, fun _ h => absurd h List.not_mem_nil⟩⟩) (Nat.le_of_ble_eq_true rfl) rfl ?_
  refine r_iload_n (q := 1) dX10_isHeater_0 rfl rfl rfl ?_
  refine r_iconst (q := 2) (v := 0) dX10_isHeater_1 rfl rfl ?_
  refine r_aload_n (q := 3) dX10_isHeater_2 rfl rfl rfl ?_
  refine r_getfield (q := 6) dX10_isHeater_3 f_X10_isHeater_9 md_g0 rfl rfl ?_
  refine r_iconst (q := 7) (v := 3) dX10_isHeater_6 rfl rfl ?_
  refine r_ldS (q := 8) (k := 3) dX10_isHeater_7 (by decide) rfl ?_
  refine r_iconst (q := 9) (v := 1) dX10_isHeater_8 rfl rfl ?_
  refine r_isub (q := 10) dX10_isHeater_9 rfl ?_
  refine r_callS (q := 13) (As := [_, _, _]) dX10_isHeater_10 s_X10_isHeater_85 rfl rfl (Nat.le_of_ble_eq_true rfl) rfl rfl rfl (Nat.le_of_ble_eq_true rfl) (Nat.le_of_ble_eq_true rfl) ⟨(Nat.le_of_ble_eq_true rfl), (Nat.le_of_ble_eq_true rfl)⟩ rfl ?_
  refine ct_X10_in (fun h => ?_) (fun h => ?_)
  · show WF _ E Po _ _ _ _ _ _ _
    have h9 := h1 ((inG hc).mp h)
    refine r_zret dX10_isHeater_13 rfl (by decide) (Nat.le_of_ble_eq_true rfl) (Nat.le_of_ble_eq_true rfl) ?_
    exact h9
  · show WF _ E Po _ _ _ _ _ _ _
    have h9 := h0 (fun z => (inG hc).mpr z h)
    refine r_zret dX10_isHeater_13 rfl (by decide) (Nat.le_of_ble_eq_true rfl) (Nat.le_of_ble_eq_true rfl) ?_
    exact h9
set_option maxRecDepth 100000 in
set_option maxHeartbeats 4000000 in
theorem ct_X10_isSeam {E : xE} {Po : xPo} {w : xW} {m : Nat} {d : xCo} {r : mRs} {o : Nat → Int32} {t : mTx} {x s : Int32} (hc : inC d) (h1 : okT d x → ¬ (s < 0 ∨ 8 ≤ s) → Po (.inl (some (.int 1))) (md E w m d r o t)) (h0 : okT d x → (s < 0 ∨ 8 ≤ s) → Po (.inl (some (.int 0))) (md E w m d r o t)) (h00 : ¬ okT d x → Po (.inl (some (.int 0))) (md E w m d r o t)) : Ct M_X10_isSeam E [.ref m, .int x, .int s] (md E w m d r o t) Po := by
  refine Ct.of (ws2 := xAll) (L := [some (.ref m), some (.int x), some (.int s)]) (by decide +kernel) rfl rfl (List.forall_mem_cons.mpr ⟨rfl, List.forall_mem_cons.mpr ⟨rfl, List.forall_mem_cons.mpr ⟨rfl, fun _ h => absurd h List.not_mem_nil⟩⟩⟩) (Nat.le_of_ble_eq_true rfl) rfl ?_
  refine r_aload_n (q := 1) dX10_isSeam_0 rfl rfl rfl ?_
  refine r_iload_n (q := 2) dX10_isSeam_1 rfl rfl rfl ?_
  refine r_callV (q := 5) (ci := 12) (As := [_]) dX10_isSeam_2 s_X10_isSeam_89 md_g0 rfl rfl rfl (Nat.le_of_ble_eq_true rfl) rfl rfl rfl (Nat.le_of_ble_eq_true rfl) (Nat.le_of_ble_eq_true rfl) ⟨(Nat.le_of_ble_eq_true rfl), (Nat.le_of_ble_eq_true rfl)⟩ rfl ?_
  refine ct_X10_isTub hc (fun hT => ?_) (fun hT => ?_)
  · show WF _ E Po _ _ _ _ _ _ _
    refine r_if_eq (q := 22) (q2 := 8) dX10_isSeam_5 (by decide) rfl (fun h9 => absurd h9 (by decide)) (fun _ => ?_)
    refine r_iload_n (q := 9) dX10_isSeam_8 rfl rfl rfl ?_
    refine r_iconst (q := 10) (v := 0) dX10_isSeam_9 rfl rfl ?_
    refine r_bipush (q := 12) (v := 7) dX10_isSeam_10 (by decide) rfl ?_
    refine r_callS (q := 15) (As := [_, _, _]) dX10_isSeam_12 s_X10_isSeam_85 rfl rfl (Nat.le_of_ble_eq_true rfl) rfl rfl rfl (Nat.le_of_ble_eq_true rfl) (Nat.le_of_ble_eq_true rfl) ⟨(Nat.le_of_ble_eq_true rfl), (Nat.le_of_ble_eq_true rfl)⟩ rfl ?_
    refine ct_X10_in (fun h => ?_) (fun h => ?_)
    · show WF _ E Po _ _ _ _ _ _ _
      have h9 := h1 hT (fun z => h (inSm.mpr z))
      refine r_if_eq (q := 22) (q2 := 18) dX10_isSeam_15 (by decide) rfl (fun h9 => absurd h9 (by decide)) (fun _ => ?_)
      refine r_iconst (q := 19) (v := 1) dX10_isSeam_18 rfl rfl ?_
      refine r_goto (q := 23) dX10_isSeam_19 (by decide) ?_
      refine r_zret dX10_isSeam_23 rfl (by decide) (Nat.le_of_ble_eq_true rfl) (Nat.le_of_ble_eq_true rfl) ?_
      exact h9
    · show WF _ E Po _ _ _ _ _ _ _
      have h9 := h0 hT (inSm.mp h)
      refine r_if_eq (q := 22) (q2 := 18) dX10_isSeam_15 (by decide) rfl (fun _ => ?_) (fun h9 => absurd rfl h9)
      refine r_iconst (q := 23) (v := 0) dX10_isSeam_22 rfl rfl ?_
      refine r_zret dX10_isSeam_23 rfl (by decide) (Nat.le_of_ble_eq_true rfl) (Nat.le_of_ble_eq_true rfl) ?_
      exact h9
  · show WF _ E Po _ _ _ _ _ _ _
    have h9 := h00 hT
    refine r_if_eq (q := 22) (q2 := 8) dX10_isSeam_5 (by decide) rfl (fun _ => ?_) (fun h9 => absurd rfl h9)
    refine r_iconst (q := 23) (v := 0) dX10_isSeam_22 rfl rfl ?_
    refine r_zret dX10_isSeam_23 rfl (by decide) (Nat.le_of_ble_eq_true rfl) (Nat.le_of_ble_eq_true rfl) ?_
    exact h9
set_option maxRecDepth 100000 in
set_option maxHeartbeats 4000000 in
theorem ct_X10_isTorn {E : xE} {Po : xPo} {w : xW} {m : Nat} {d : xCo} {r : mRs} {o : Nat → Int32} {t : mTx} {j : Nat} {s : Int32} (hj : j < 8) (h1 : ¬ d.2.1 j 2 >>> (s &&& 31) &&& 1 = 0 → Po (.inl (some (.int 1))) (md E w m d r o t)) (h0 : d.2.1 j 2 >>> (s &&& 31) &&& 1 = 0 → Po (.inl (some (.int 0))) (md E w m d r o t)) : Ct M_X10_isTorn E [.ref m, .int (nI j), .int s] (md E w m d r o t) Po := by
  refine Ct.of (ws2 := xAll) (L := [some (.ref m), some (.int (nI j)), some (.int s)]) (by decide +kernel) rfl rfl (List.forall_mem_cons.mpr ⟨rfl, List.forall_mem_cons.mpr ⟨rfl, List.forall_mem_cons.mpr ⟨rfl, fun _ h => absurd h List.not_mem_nil⟩⟩⟩) (Nat.le_of_ble_eq_true rfl) rfl ?_
  refine r_aload_n (q := 1) dX10_isTorn_0 rfl rfl rfl ?_
  refine r_iload_n (q := 2) dX10_isTorn_1 rfl rfl rfl ?_
  refine r_iconst (q := 3) (v := 2) dX10_isTorn_2 rfl rfl ?_
  refine r_callV (q := 6) (ci := 12) (As := [_, _]) dX10_isTorn_3 s_X10_isTorn_93 md_g0 rfl rfl rfl (Nat.le_of_ble_eq_true rfl) rfl rfl rfl (Nat.le_of_ble_eq_true rfl) (Nat.le_of_ble_eq_true rfl) ⟨(Nat.le_of_ble_eq_true rfl), (Nat.le_of_ble_eq_true rfl)⟩ rfl ?_
  refine ct_X10_tub1 (k := 2) hj (by decide) ?_
  show WF _ E Po _ _ _ _ _ _ _
  refine r_iload_n (q := 7) dX10_isTorn_6 rfl rfl rfl ?_
  refine r_ishr (q := 8) dX10_isTorn_7 rfl ?_
  refine r_iconst (q := 9) (v := 1) dX10_isTorn_8 rfl rfl ?_
  refine r_iand (q := 10) dX10_isTorn_9 rfl ?_
  refine r_iconst (q := 11) (v := 1) dX10_isTorn_10 rfl rfl ?_
  refine r_icmp_ne (q := 18) (q2 := 14) dX10_isTorn_11 (by decide) rfl (fun h11 => ?_) (fun h11 => ?_)
  · have h9 := h0 (Classical.byContradiction (fun z => h11 (and1n z)))
    refine r_iconst (q := 19) (v := 0) dX10_isTorn_18 rfl rfl ?_
    refine r_zret dX10_isTorn_19 rfl (by decide) (Nat.le_of_ble_eq_true rfl) (Nat.le_of_ble_eq_true rfl) ?_
    exact h9
  · have h9 := h1 (fun z => absurd (h11.symm.trans z) (by decide))
    refine r_iconst (q := 15) (v := 1) dX10_isTorn_14 rfl rfl ?_
    refine r_goto (q := 19) dX10_isTorn_15 (by decide) ?_
    refine r_zret dX10_isTorn_19 rfl (by decide) (Nat.le_of_ble_eq_true rfl) (Nat.le_of_ble_eq_true rfl) ?_
    exact h9
