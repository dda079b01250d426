/-! ===== 08.state: what a store is: its core, its cells ===== -/
/-- a store's core: scalars (0 hour, 1 tubs, 2 tents, 3 heaters, 4 clean, 5 used, 6 soap, 7 coins, 8 came, 9 bathed, 10 reason, 11 detail), tubs, tents (slope, tub, heater, bathed, waiting, guests from 5), heaters -/
abbrev xCo : Type := (Nat → Int32) × (Nat → Nat → Int32) × (Nat → Nat → Int32) × (Nat → Nat → Int32)
def up2 (f : Nat → Nat → Int32) (i k : Nat) (x : Int32) : Nat → Nat → Int32 := fun a b => if a = i ∧ b = k then x else f a b
abbrev cS (c : xCo) (k : Nat) (x : Int32) : xCo := (upd c.1 k x, c.2)
abbrev cT (c : xCo) (i k : Nat) (x : Int32) : xCo := (c.1, up2 c.2.1 i k x, c.2.2)
abbrev cU (c : xCo) (i k : Nat) (x : Int32) : xCo := (c.1, c.2.1, up2 c.2.2.1 i k x, c.2.2.2)
abbrev cG (c : xCo) (i k : Nat) (x : Int32) : xCo := (c.1, c.2.1, c.2.2.1, up2 c.2.2.2 i k x)
theorem upd_s {f : Nat → Int32} {k : Nat} {x : Int32} : upd f k x k = x := by simp [upd]
theorem upd_o {f : Nat → Int32} {k j : Nat} {x : Int32} (h : j ≠ k) : upd f k x j = f j := by simp [upd, h]
theorem up2_s {f : Nat → Nat → Int32} {i k : Nat} {x : Int32} : up2 f i k x i k = x := by simp [up2]
theorem up2_o {f : Nat → Nat → Int32} {i k a b : Nat} {x : Int32} (h : ¬ (a = i ∧ b = k)) : up2 f i k x a b = f a b := by simp only [up2, if_neg h]
theorem up2_1 {f : Nat → Nat → Int32} {i k a b : Nat} {x : Int32} (h : a ≠ i) : up2 f i k x a b = f a b := up2_o (fun z => h z.1)
theorem up2_2 {f : Nat → Nat → Int32} {i k a b : Nat} {x : Int32} (h : b ≠ k) : up2 f i k x a b = f a b := up2_o (fun z => h z.2)
def bb (x : Int32) : Int32 := if x = 0 then 0 else 1
theorem bb_or (x : Int32) : bb x = 0 ∨ bb x = 1 := by unfold bb; split <;> simp
theorem bb_bb (x : Int32) : bb (bb x) = bb x := by rcases bb_or x with h | h <;> rw [h] <;> decide
theorem bb_nar (x : Int32) : narrow .boolean (.int (bb x)) = .int (bb x) := by rcases bb_or x with h | h <;> rw [h] <;> rfl
theorem bb_fit (x : Int32) : fits .boolean (.int (bb x)) = true := by rcases bb_or x with h | h <;> rw [h] <;> rfl
def tubE (f : Nat → Int32) : va_E := .inr (10, [.int (f 0), .int (f 1), .int (f 2), .int (f 3), .int (f 4), .int (bb (f 5)), .int (f 6)])
/-- a tent whose guests' row lies at a -/
def tntE (a : Nat) (f : Nat → Int32) : va_E := .inr (8, [.int (f 0), .int (f 1), .int (f 2), .int (f 4), .int (f 3), .ref a])
def gstE (E : xE) (f : Nat → Int32) : va_E := .inl (E.1.2 0, 6, .inl (fun k => if k < 6 then f (5 + k) else 0))
def htrE (f : Nat → Int32) : va_E := .inr (4, [.int (f 0), .int (f 1)])
def rfsE (f : Nat → Int32) : va_E := .inr (6, [.int (f 10), .int (f 11)])
def refE (cA : ClassId) (n a d : Nat) : va_E := .inl (cA, n, .inr (.inr (.inr (.inr (fun k => if k < n then some (a + d * k) else none)))))
def storE (b : Nat) (f : Nat → Int32) : va_E := .inr (7, [.ref (b + 1), .ref (b + 2), .ref (b + 3), .ref (b + 4), .int (f 1), .int (f 2), .int (f 3), .int (f 0), .int (f 4), .int (f 5), .int (f 8), .int (f 9), .int (f 6), .int (f 7)])
/-- a store's cells, by their places from its own on: itself, refusal, three rows, 8 tubs, 5 tents each with its guests' row, 4 heaters -/
def stoC (E : xE) (b : Nat) (c : xCo) (o : Nat) : va_E :=
  if o = 0 then storE b c.1 else if o = 1 then rfsE c.1 else if o = 2 then refE (E.1.2 2) 8 (b + 5) 1 else if o = 3 then refE (E.1.2 3) 5 (b + 13) 2 else if o = 4 then refE (E.1.2 4) 4 (b + 23) 1
  else if o < 13 then tubE (c.2.1 (o - 5)) else if o < 23 then (if (o - 13) % 2 = 0 then tntE (b + o + 1) (c.2.2.1 ((o - 13) / 2)) else gstE E (c.2.2.1 ((o - 13) / 2))) else htrE (c.2.2.2 (o - 23))
def sto (E : xE) (w : xW) (b : Nat) (c : xCo) : xW := (fun q => if b ≤ q ∧ q < b + 27 then some (stoC E b c (q - b)) else w.1 q, w.2)
theorem sto_at {E : xE} {w : xW} {b o : Nat} {c : xCo} (h : o < 27) : (sto E w b c).1 (b + o) = some (stoC E b c o) := by
  show (if b ≤ b + o ∧ b + o < b + 27 then _ else _) = _
  rw [if_pos ⟨by omega, by omega⟩, show b + o - b = o by omega]
theorem sto_out {E : xE} {w : xW} {b q : Nat} {c : xCo} (h : q < b ∨ b + 27 ≤ q) : (sto E w b c).1 q = w.1 q := by
  show (if b ≤ q ∧ q < b + 27 then _ else _) = _
  rw [if_neg (by omega)]
theorem sto_2 {E : xE} {w : xW} {b : Nat} {c : xCo} : (sto E w b c).2 = w.2 := rfl
theorem sto_sto {E : xE} {w : xW} {b : Nat} {c c2 : xCo} : sto E (sto E w b c) b c2 = sto E w b c2 := by
  refine Prod.ext ?_ rfl
  funext q
  show (if b ≤ q ∧ q < b + 27 then _ else (if b ≤ q ∧ q < b + 27 then _ else _)) = (if b ≤ q ∧ q < b + 27 then _ else _)
  split <;> rfl
theorem sto_id {E : xE} {w : xW} {b : Nat} {c : xCo} (h : ∀ o, o < 27 → w.1 (b + o) = some (stoC E b c o)) : sto E w b c = w := by
  refine Prod.ext ?_ rfl
  funext q
  show (if b ≤ q ∧ q < b + 27 then _ else _) = _
  split
  · rename_i hq
    have := h (q - b) (by omega)
    rw [show b + (q - b) = q by omega] at this
    exact this.symm
  · rfl
theorem sto_put {E : xE} {w : xW} {b o : Nat} {c c2 : xCo} {e : va_E} (h : o < 27) (he : stoC E b c2 o = e) (ho : ∀ j, j < 27 → j ≠ o → stoC E b c2 j = stoC E b c j) : xset (sto E w b c) (b + o) e = sto E w b c2 := by
  refine Prod.ext ?_ rfl
  funext q
  show (if q = b + o then some e else (if b ≤ q ∧ q < b + 27 then some (stoC E b c (q - b)) else w.1 q)) = (if b ≤ q ∧ q < b + 27 then some (stoC E b c2 (q - b)) else w.1 q)
  by_cases h1 : q = b + o
  · subst h1
    rw [if_pos rfl, if_pos ⟨by omega, by omega⟩, show b + o - b = o by omega, he]
  · rw [if_neg h1]
    by_cases h2 : b ≤ q ∧ q < b + 27
    · rw [if_pos h2, if_pos h2, ho (q - b) (by omega) (by omega)]
    · rw [if_neg h2, if_neg h2]
theorem stoC_tub {E : xE} {b t : Nat} {c : xCo} (h : t < 8) : stoC E b c (5 + t) = tubE (c.2.1 t) := by
  unfold stoC
  rw [if_neg (by omega), if_neg (by omega), if_neg (by omega), if_neg (by omega), if_neg (by omega), if_pos (by omega), show 5 + t - 5 = t by omega]
theorem stoC_tnt {E : xE} {b u : Nat} {c : xCo} (h : u < 5) : stoC E b c (13 + 2 * u) = tntE (b + 14 + 2 * u) (c.2.2.1 u) := by
  unfold stoC
  rw [if_neg (by omega), if_neg (by omega), if_neg (by omega), if_neg (by omega), if_neg (by omega), if_neg (by omega), if_pos (by omega), if_pos (by omega), show (13 + 2 * u - 13) / 2 = u by omega, show b + (13 + 2 * u) + 1 = b + 14 + 2 * u by omega]
theorem stoC_gst {E : xE} {b u : Nat} {c : xCo} (h : u < 5) : stoC E b c (14 + 2 * u) = gstE E (c.2.2.1 u) := by
  unfold stoC
  rw [if_neg (by omega), if_neg (by omega), if_neg (by omega), if_neg (by omega), if_neg (by omega), if_neg (by omega), if_pos (by omega), if_neg (by omega), show (14 + 2 * u - 13) / 2 = u by omega]
theorem stoC_htr {E : xE} {b g : Nat} {c : xCo} (h : g < 4) : stoC E b c (23 + g) = htrE (c.2.2.2 g) := by
  unfold stoC
  rw [if_neg (by omega), if_neg (by omega), if_neg (by omega), if_neg (by omega), if_neg (by omega), if_neg (by omega), if_neg (by omega), show 23 + g - 23 = g by omega]
theorem stoC_0 {E : xE} {b : Nat} {c : xCo} : stoC E b c 0 = storE b c.1 := rfl
theorem stoC_1 {E : xE} {b : Nat} {c : xCo} : stoC E b c 1 = rfsE c.1 := rfl
/-- the places of a store's cells -/
theorem sto_cases {P : Nat → Prop} (h0 : P 0) (h1 : P 1) (h2 : P 2) (h3 : P 3) (h4 : P 4) (ht : ∀ t, t < 8 → P (5 + t)) (hu : ∀ u, u < 5 → P (13 + 2 * u)) (hg : ∀ u, u < 5 → P (14 + 2 * u)) (hh : ∀ g, g < 4 → P (23 + g)) : ∀ o, o < 27 → P o := by
  intro o ho
  by_cases c0 : o = 0; · subst c0; exact h0
  by_cases c1 : o = 1; · subst c1; exact h1
  by_cases c2 : o = 2; · subst c2; exact h2
  by_cases c3 : o = 3; · subst c3; exact h3
  by_cases c4 : o = 4; · subst c4; exact h4
  by_cases c5 : o < 13; · have := ht (o - 5) (by omega); rwa [show 5 + (o - 5) = o by omega] at this
  by_cases c6 : o < 23
  · by_cases c7 : (o - 13) % 2 = 0
    · have := hu ((o - 13) / 2) (by omega); rwa [show 13 + 2 * ((o - 13) / 2) = o by omega] at this
    · have := hg ((o - 13) / 2) (by omega); rwa [show 14 + 2 * ((o - 13) / 2) = o by omega] at this
  · have := hh (o - 23) (by omega); rwa [show 23 + (o - 23) = o by omega] at this
/-- what each place takes from the core -/
theorem stoC_S {E : xE} {b o k : Nat} {c : xCo} {x : Int32} (h : 2 ≤ o) : stoC E b (cS c k x) o = stoC E b c o := by
  have h0 : ¬ o = 0 := by omega
  have h1 : ¬ o = 1 := by omega
  simp only [stoC, if_neg h0, if_neg h1]
theorem stoC_T {E : xE} {b o t k : Nat} {c : xCo} {x : Int32} (h : o ≠ 5 + t) (ho : o < 27) : stoC E b (cT c t k x) o = stoC E b c o := by
  revert h
  refine sto_cases (P := fun o => o ≠ 5 + t → stoC E b (cT c t k x) o = stoC E b c o) (fun _ => rfl) (fun _ => rfl) (fun _ => rfl) (fun _ => rfl) (fun _ => rfl) (fun j hj h => ?_) (fun j hj _ => ?_) (fun j hj _ => ?_) (fun j hj _ => ?_) o ho
  · rw [stoC_tub hj, stoC_tub hj]
    have : j ≠ t := fun e => h (by rw [e])
    have e : (cT c t k x).2.1 j = c.2.1 j := by funext z; exact up2_1 this
    rw [e]
  · rw [stoC_tnt hj, stoC_tnt hj]
  · rw [stoC_gst hj, stoC_gst hj]
  · rw [stoC_htr hj, stoC_htr hj]
theorem stoC_U {E : xE} {b o u k : Nat} {c : xCo} {x : Int32} (h : o ≠ 13 + 2 * u) (h2 : o ≠ 14 + 2 * u) (ho : o < 27) : stoC E b (cU c u k x) o = stoC E b c o := by
  revert h h2
  refine sto_cases (P := fun o => o ≠ 13 + 2 * u → o ≠ 14 + 2 * u → stoC E b (cU c u k x) o = stoC E b c o) (fun _ _ => rfl) (fun _ _ => rfl) (fun _ _ => rfl) (fun _ _ => rfl) (fun _ _ => rfl) (fun j hj _ _ => ?_) (fun j hj h _ => ?_) (fun j hj _ h => ?_) (fun j hj _ _ => ?_) o ho
  · rw [stoC_tub hj, stoC_tub hj]
  · rw [stoC_tnt hj, stoC_tnt hj]
    have : j ≠ u := fun e => h (by rw [e])
    have e : (cU c u k x).2.2.1 j = c.2.2.1 j := by funext z; exact up2_1 this
    rw [e]
  · rw [stoC_gst hj, stoC_gst hj]
    have : j ≠ u := fun e => h (by rw [e])
    have e : (cU c u k x).2.2.1 j = c.2.2.1 j := by funext z; exact up2_1 this
    rw [e]
  · rw [stoC_htr hj, stoC_htr hj]
theorem stoC_G {E : xE} {b o g k : Nat} {c : xCo} {x : Int32} (h : o ≠ 23 + g) (ho : o < 27) : stoC E b (cG c g k x) o = stoC E b c o := by
  revert h
  refine sto_cases (P := fun o => o ≠ 23 + g → stoC E b (cG c g k x) o = stoC E b c o) (fun _ => rfl) (fun _ => rfl) (fun _ => rfl) (fun _ => rfl) (fun _ => rfl) (fun j hj _ => ?_) (fun j hj _ => ?_) (fun j hj _ => ?_) (fun j hj h => ?_) o ho
  · rw [stoC_tub hj, stoC_tub hj]
  · rw [stoC_tnt hj, stoC_tnt hj]
  · rw [stoC_gst hj, stoC_gst hj]
  · rw [stoC_htr hj, stoC_htr hj]
    have : j ≠ g := fun e => h (by rw [e])
    have e : (cG c g k x).2.2.2 j = c.2.2.2 j := by funext z; exact up2_1 this
    rw [e]
/-- reading a store's cells -/
theorem sto_g0 {E : xE} {w : xW} {b : Nat} {c : xCo} : (sto E w b c).1 b = some (storE b c.1) := sto_at (o := 0) (by omega)
theorem sto_g1 {E : xE} {w : xW} {b : Nat} {c : xCo} : (sto E w b c).1 (b + 1) = some (rfsE c.1) := sto_at (o := 1) (by omega)
theorem sto_g2 {E : xE} {w : xW} {b : Nat} {c : xCo} : (sto E w b c).1 (b + 2) = some (refE (E.1.2 2) 8 (b + 5) 1) := sto_at (o := 2) (by omega)
theorem sto_g3 {E : xE} {w : xW} {b : Nat} {c : xCo} : (sto E w b c).1 (b + 3) = some (refE (E.1.2 3) 5 (b + 13) 2) := sto_at (o := 3) (by omega)
theorem sto_g4 {E : xE} {w : xW} {b : Nat} {c : xCo} : (sto E w b c).1 (b + 4) = some (refE (E.1.2 4) 4 (b + 23) 1) := sto_at (o := 4) (by omega)
theorem sto_gT {E : xE} {w : xW} {b t : Nat} {c : xCo} (h : t < 8) : (sto E w b c).1 (b + 5 + t) = some (tubE (c.2.1 t)) := by
  rw [Nat.add_assoc, sto_at (by omega), stoC_tub h]
theorem sto_gU {E : xE} {w : xW} {b u : Nat} {c : xCo} (h : u < 5) : (sto E w b c).1 (b + 13 + 2 * u) = some (tntE (b + 14 + 2 * u) (c.2.2.1 u)) := by
  rw [Nat.add_assoc, sto_at (by omega), stoC_tnt h]
theorem sto_gV {E : xE} {w : xW} {b u : Nat} {c : xCo} (h : u < 5) : (sto E w b c).1 (b + 14 + 2 * u) = some (gstE E (c.2.2.1 u)) := by
  rw [Nat.add_assoc, sto_at (by omega), stoC_gst h]
theorem sto_gG {E : xE} {w : xW} {b g : Nat} {c : xCo} (h : g < 4) : (sto E w b c).1 (b + 23 + g) = some (htrE (c.2.2.2 g)) := by
  rw [Nat.add_assoc, sto_at (by omega), stoC_htr h]
/-- writing them -/
theorem sto_p0 {E : xE} {w : xW} {b k : Nat} {c : xCo} {x : Int32} (h : k < 10) : xset (sto E w b c) b (storE b (upd c.1 k x)) = sto E w b (cS c k x) := by
  refine sto_put (o := 0) (by omega) rfl (fun j hj h0 => ?_)
  by_cases h1 : j = 1
  · subst h1
    show rfsE (upd c.1 k x) = rfsE c.1
    unfold rfsE
    rw [upd_o (by omega), upd_o (by omega)]
  · exact stoC_S (by omega)
theorem sto_p1 {E : xE} {w : xW} {b k : Nat} {c : xCo} {x : Int32} (h : 10 ≤ k) : xset (sto E w b c) (b + 1) (rfsE (upd c.1 k x)) = sto E w b (cS c k x) := by
  refine sto_put (o := 1) (by omega) rfl (fun j hj h0 => ?_)
  by_cases h1 : j = 0
  · subst h1
    show storE b (upd c.1 k x) = storE b c.1
    unfold storE
    rw [upd_o (by omega), upd_o (by omega), upd_o (by omega), upd_o (by omega), upd_o (by omega), upd_o (by omega), upd_o (by omega), upd_o (by omega), upd_o (by omega), upd_o (by omega)]
  · exact stoC_S (by omega)
theorem sto_pT {E : xE} {w : xW} {b t k : Nat} {c : xCo} {x : Int32} (h : t < 8) : xset (sto E w b c) (b + 5 + t) (tubE (upd (c.2.1 t) k x)) = sto E w b (cT c t k x) := by
  rw [Nat.add_assoc]
  refine sto_put (o := 5 + t) (by omega) ?_ (fun j hj h0 => stoC_T h0 hj)
  rw [stoC_tub h]
  congr 1
  funext z
  by_cases hz : z = k
  · subst hz; rw [upd_s]; exact up2_s
  · rw [upd_o hz]; exact up2_2 hz
theorem sto_pU {E : xE} {w : xW} {b u k : Nat} {c : xCo} {x : Int32} (h : u < 5) (hk : k < 5) : xset (sto E w b c) (b + 13 + 2 * u) (tntE (b + 14 + 2 * u) (upd (c.2.2.1 u) k x)) = sto E w b (cU c u k x) := by
  have key : (cU c u k x).2.2.1 u = upd (c.2.2.1 u) k x := by
    funext z
    by_cases hz : z = k
    · subst hz; rw [upd_s]; exact up2_s
    · rw [upd_o hz]; exact up2_2 hz
  rw [Nat.add_assoc b 13]
  refine sto_put (o := 13 + 2 * u) (by omega) ?_ (fun j hj h0 => ?_)
  · rw [stoC_tnt h, key]
  · by_cases h2 : j = 14 + 2 * u
    · subst h2
      rw [stoC_gst h, stoC_gst h, key]
      unfold gstE
      congr 4
      funext z
      split
      · rw [upd_o (by omega)]
      · rfl
    · exact stoC_U h0 h2 hj
theorem sto_pV {E : xE} {w : xW} {b u k : Nat} {c : xCo} {x : Int32} (h : u < 5) (hk : k < 6) : xset (sto E w b c) (b + 14 + 2 * u) (gstE E (upd (c.2.2.1 u) (5 + k) x)) = sto E w b (cU c u (5 + k) x) := by
  have key : (cU c u (5 + k) x).2.2.1 u = upd (c.2.2.1 u) (5 + k) x := by
    funext z
    by_cases hz : z = 5 + k
    · subst hz; rw [upd_s]; exact up2_s
    · rw [upd_o hz]; exact up2_2 hz
  rw [Nat.add_assoc b 14]
  refine sto_put (o := 14 + 2 * u) (by omega) ?_ (fun j hj h0 => ?_)
  · rw [stoC_gst h, key]
  · by_cases h2 : j = 13 + 2 * u
    · subst h2
      rw [stoC_tnt h, stoC_tnt h, key]
      unfold tntE
      rw [upd_o (by omega), upd_o (by omega), upd_o (by omega), upd_o (by omega), upd_o (by omega)]
    · exact stoC_U h2 h0 hj
theorem gst_upd {E : xE} {f : Nat → Int32} {k : Nat} {x : Int32} (h : k < 6) : (.inl (E.1.2 0, 6, .inl (upd (fun z => if z < 6 then f (5 + z) else 0) k x)) : va_E) = gstE E (upd f (5 + k) x) := by
  unfold gstE
  congr 4
  funext z
  by_cases hz : z = k
  · subst hz; rw [upd_s, if_pos h, upd_s]
  · rw [upd_o hz]
    split
    · rw [upd_o (by omega)]
    · rfl
theorem sto_pG {E : xE} {w : xW} {b g k : Nat} {c : xCo} {x : Int32} (h : g < 4) : xset (sto E w b c) (b + 23 + g) (htrE (upd (c.2.2.2 g) k x)) = sto E w b (cG c g k x) := by
  rw [Nat.add_assoc]
  refine sto_put (o := 23 + g) (by omega) ?_ (fun j hj h0 => stoC_G h0 hj)
  rw [stoC_htr h]
  congr 1
  funext z
  by_cases hz : z = k
  · subst hz; rw [upd_s]; exact up2_s
  · rw [upd_o hz]; exact up2_2 hz
