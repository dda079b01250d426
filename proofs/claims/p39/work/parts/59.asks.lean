/-! ===== 59.asks: what the law's tries of asks answer (laid by wip/p39/gen/make59.py) ===== -/
def lTubOf (c : xCo) (t y : Int32) : Int32 := (if okT c t then (if y < 0 then (-12) else (if y ≤ 6 then tldS (c.2.1 t.toNatClampNeg) y else (-12))) else (-11))
theorem la_tubOf {E : xE} {Po : xPo} {w : xW} {x : Nat} {h : xHi} {t y : Int32} (H : HI E w x h) (hp : ∀ u, HI E u x h → FX w u x h h → Po (.inl (some (.int (lTubOf (h.1 0) t y)))) u) : Ct M_L_tubOf E [.ref x, .int t, .int y] w Po := by
  unfold lTubOf at hp
  by_cases a0 : okT (h.1 0) t
  · simp only [if_pos a0] at hp
    by_cases a1 : y < 0
    · simp only [if_pos a1] at hp
      exact ct_L_tubOf 2 (0) (fun g => g = h) H (by decide) (fun _ e => by rw [e]) (fun Po q => ct_X9_tubOf H (by rw [if_pos a0, if_pos a1]; exact fun u Hu fu => q u h rfl Hu fu)) (fun u h2 e Hu fu => by subst e; exact hp u Hu fu)
    · simp only [if_neg a1] at hp
      by_cases a2 : y ≤ 6
      · simp only [if_pos a2] at hp
        exact ct_L_tubOf 0 (tldS ((h.1 0).2.1 t.toNatClampNeg) y) (fun g => g = h) H (by decide) (fun _ e => by rw [e]) (fun Po q => ct_X9_tubOf H (by rw [if_pos a0, if_neg a1, if_pos a2]; exact q w h rfl H Fr.id)) (fun u h2 e Hu fu => by subst e; exact hp u Hu fu)
      · simp only [if_neg a2] at hp
        exact ct_L_tubOf 2 (0) (fun g => g = h) H (by decide) (fun _ e => by rw [e]) (fun Po q => ct_X9_tubOf H (by rw [if_pos a0, if_neg a1, if_neg a2]; exact fun u Hu fu => q u h rfl Hu fu)) (fun u h2 e Hu fu => by subst e; exact hp u Hu fu)
  · simp only [if_neg a0] at hp
    exact ct_L_tubOf 1 (0) (fun g => g = h) H (by decide) (fun _ e => by rw [e]) (fun Po q => ct_X9_tubOf H (by rw [if_neg a0]; exact fun u Hu fu => q u h rfl Hu fu)) (fun u h2 e Hu fu => by subst e; exact hp u Hu fu)
def lTentOf (c : xCo) (t y : Int32) : Int32 := (if okU c t then (if y < 0 then (-12) else (if y ≤ 4 then tltS (c.2.2.1 t.toNatClampNeg) y else (-12))) else (-11))
theorem la_tentOf {E : xE} {Po : xPo} {w : xW} {x : Nat} {h : xHi} {t y : Int32} (H : HI E w x h) (hp : ∀ u, HI E u x h → FX w u x h h → Po (.inl (some (.int (lTentOf (h.1 0) t y)))) u) : Ct M_L_tentOf E [.ref x, .int t, .int y] w Po := by
  unfold lTentOf at hp
  by_cases a0 : okU (h.1 0) t
  · simp only [if_pos a0] at hp
    by_cases a1 : y < 0
    · simp only [if_pos a1] at hp
      exact ct_L_tentOf 2 (0) (fun g => g = h) H (by decide) (fun _ e => by rw [e]) (fun Po q => ct_X9_tentOf H (by rw [if_pos a0, if_pos a1]; exact fun u Hu fu => q u h rfl Hu fu)) (fun u h2 e Hu fu => by subst e; exact hp u Hu fu)
    · simp only [if_neg a1] at hp
      by_cases a2 : y ≤ 4
      · simp only [if_pos a2] at hp
        exact ct_L_tentOf 0 (tltS ((h.1 0).2.2.1 t.toNatClampNeg) y) (fun g => g = h) H (by decide) (fun _ e => by rw [e]) (fun Po q => ct_X9_tentOf H (by rw [if_pos a0, if_neg a1, if_pos a2]; exact q w h rfl H Fr.id)) (fun u h2 e Hu fu => by subst e; exact hp u Hu fu)
      · simp only [if_neg a2] at hp
        exact ct_L_tentOf 2 (0) (fun g => g = h) H (by decide) (fun _ e => by rw [e]) (fun Po q => ct_X9_tentOf H (by rw [if_pos a0, if_neg a1, if_neg a2]; exact fun u Hu fu => q u h rfl Hu fu)) (fun u h2 e Hu fu => by subst e; exact hp u Hu fu)
  · simp only [if_neg a0] at hp
    exact ct_L_tentOf 1 (0) (fun g => g = h) H (by decide) (fun _ e => by rw [e]) (fun Po q => ct_X9_tentOf H (by rw [if_neg a0]; exact fun u Hu fu => q u h rfl Hu fu)) (fun u h2 e Hu fu => by subst e; exact hp u Hu fu)
def lTorn (c : xCo) (t s : Int32) : Int32 := (if okT c t then (if s < 0 ∨ 8 ≤ s then (-11) else (if 0 ≤ tfS (c.2.1 t.toNatClampNeg 2) (8 - s.toNatClampNeg) s.toNatClampNeg then tfS (c.2.1 t.toNatClampNeg 2) (8 - s.toNatClampNeg) s.toNatClampNeg else (-13))) else (-11))
theorem la_torn {E : xE} {Po : xPo} {w : xW} {x : Nat} {h : xHi} {t s : Int32} (H : HI E w x h) (hp : ∀ u, HI E u x h → FX w u x h h → Po (.inl (some (.int (lTorn (h.1 0) t s)))) u) : Ct M_L_torn E [.ref x, .int t, .int s] w Po := by
  unfold lTorn at hp
  by_cases a0 : okT (h.1 0) t
  · simp only [if_pos a0] at hp
    by_cases a1 : s < 0 ∨ 8 ≤ s
    · simp only [if_pos a1] at hp
      exact ct_L_torn 1 (0) (fun g => g = h) H (by decide) (fun _ e => by rw [e]) (fun Po q => ct_X9_torn H (by rw [if_pos a0, if_pos a1]; exact fun u Hu fu => q u h rfl Hu fu)) (fun u h2 e Hu fu => by subst e; exact hp u Hu fu)
    · simp only [if_neg a1] at hp
      by_cases a2 : 0 ≤ tfS ((h.1 0).2.1 t.toNatClampNeg 2) (8 - s.toNatClampNeg) s.toNatClampNeg
      · simp only [if_pos a2] at hp
        exact ct_L_torn 0 (tfS ((h.1 0).2.1 t.toNatClampNeg 2) (8 - s.toNatClampNeg) s.toNatClampNeg) (fun g => g = h) H (by decide) (fun _ e => by rw [e]) (fun Po q => ct_X9_torn H (by rw [if_pos a0, if_neg a1, if_pos a2]; exact q w h rfl H Fr.id)) (fun u h2 e Hu fu => by subst e; exact hp u Hu fu)
      · simp only [if_neg a2] at hp
        exact ct_L_torn 2 (0) (fun g => g = h) H (by decide) (fun _ e => by rw [e]) (fun Po q => ct_X9_torn H (by rw [if_pos a0, if_neg a1, if_neg a2]; exact fun u Hu fu => q u h rfl Hu fu)) (fun u h2 e Hu fu => by subst e; exact hp u Hu fu)
  · simp only [if_neg a0] at hp
    exact ct_L_torn 1 (0) (fun g => g = h) H (by decide) (fun _ e => by rw [e]) (fun Po q => ct_X9_torn H (by rw [if_neg a0]; exact fun u Hu fu => q u h rfl Hu fu)) (fun u h2 e Hu fu => by subst e; exact hp u Hu fu)
def lWaiting (c : xCo) (t s : Int32) : Int32 := (if okU c t then (if 0 ≤ gAtS (c.2.2.1 t.toNatClampNeg) s then gAtS (c.2.2.1 t.toNatClampNeg) s else (-13)) else (-11))
theorem la_waiting {E : xE} {Po : xPo} {w : xW} {x : Nat} {h : xHi} {t s : Int32} (H : HI E w x h) (hp : ∀ u, HI E u x h → FX w u x h h → Po (.inl (some (.int (lWaiting (h.1 0) t s)))) u) : Ct M_L_waiting E [.ref x, .int t, .int s] w Po := by
  unfold lWaiting at hp
  by_cases a0 : okU (h.1 0) t
  · simp only [if_pos a0] at hp
    by_cases a1 : 0 ≤ gAtS ((h.1 0).2.2.1 t.toNatClampNeg) s
    · simp only [if_pos a1] at hp
      exact ct_L_waiting 0 (gAtS ((h.1 0).2.2.1 t.toNatClampNeg) s) (fun g => g = h) H (by decide) (fun _ e => by rw [e]) (fun Po q => ct_X9_waiting H (by rw [if_pos a0, if_pos a1]; exact q w h rfl H Fr.id)) (fun u h2 e Hu fu => by subst e; exact hp u Hu fu)
    · simp only [if_neg a1] at hp
      exact ct_L_waiting 2 (0) (fun g => g = h) H (by decide) (fun _ e => by rw [e]) (fun Po q => ct_X9_waiting H (by rw [if_pos a0, if_neg a1]; exact fun u Hu fu => q u h rfl Hu fu)) (fun u h2 e Hu fu => by subst e; exact hp u Hu fu)
  · simp only [if_neg a0] at hp
    exact ct_L_waiting 1 (0) (fun g => g = h) H (by decide) (fun _ e => by rw [e]) (fun Po q => ct_X9_waiting H (by rw [if_neg a0]; exact fun u Hu fu => q u h rfl Hu fu)) (fun u h2 e Hu fu => by subst e; exact hp u Hu fu)
def lHeaterOf (c : xCo) (t y : Int32) : Int32 := (if okG c t then (if y = 0 then c.2.2.2 t.toNatClampNeg 1 else c.2.2.2 t.toNatClampNeg 0) else (-11))
theorem la_heaterOf {E : xE} {Po : xPo} {w : xW} {x : Nat} {h : xHi} {t y : Int32} (H : HI E w x h) (hp : ∀ u, HI E u x h → FX w u x h h → Po (.inl (some (.int (lHeaterOf (h.1 0) t y)))) u) : Ct M_L_heaterOf E [.ref x, .int t, .int y] w Po := by
  unfold lHeaterOf at hp
  by_cases a0 : okG (h.1 0) t
  · simp only [if_pos a0] at hp
    by_cases a1 : y = 0
    · simp only [if_pos a1] at hp
      exact ct_L_heaterOf 0 ((h.1 0).2.2.2 t.toNatClampNeg 1) (fun g => g = h) H (by decide) (fun _ e => by rw [e]) (fun Po q => ct_X9_heaterOf H (by rw [if_pos a0, if_pos a1]; exact q w h rfl H Fr.id)) (fun u h2 e Hu fu => by subst e; exact hp u Hu fu)
    · simp only [if_neg a1] at hp
      exact ct_L_heaterOf 0 ((h.1 0).2.2.2 t.toNatClampNeg 0) (fun g => g = h) H (by decide) (fun _ e => by rw [e]) (fun Po q => ct_X9_heaterOf H (by rw [if_pos a0, if_neg a1]; exact q w h rfl H Fr.id)) (fun u h2 e Hu fu => by subst e; exact hp u Hu fu)
  · simp only [if_neg a0] at hp
    exact ct_L_heaterOf 1 (0) (fun g => g = h) H (by decide) (fun _ e => by rw [e]) (fun Po q => ct_X9_heaterOf H (by rw [if_neg a0]; exact fun u Hu fu => q u h rfl Hu fu)) (fun u h2 e Hu fu => by subst e; exact hp u Hu fu)
def lRefusal (c : xCo) (z : Int32) : Int32 := (if c.1 10 = 0 then (-101) else (if z = 0 then c.1 11 else c.1 10))
theorem la_refusal {E : xE} {Po : xPo} {w : xW} {x : Nat} {h : xHi} {z : Int32} (H : HI E w x h) (hp : ∀ u, HI E u x h → FX w u x h h → Po (.inl (some (.int (lRefusal (h.1 0) z)))) u) : Ct M_L_refusal E [.ref x, .int z] w Po := by
  unfold lRefusal at hp
  by_cases a0 : (h.1 0).1 10 = 0
  · simp only [if_pos a0] at hp
    exact ct_L_refusal 1 (0) (fun g => g = h) H (by decide) (fun _ e => by rw [e]) (fun Po q => ct_X9_refusal H (by rw [if_pos a0]; exact fun u Hu fu => q u h rfl Hu fu)) (fun u h2 e Hu fu => by subst e; exact hp u Hu fu)
  · simp only [if_neg a0] at hp
    by_cases a1 : z = 0
    · simp only [if_pos a1] at hp
      exact ct_L_refusal 0 ((h.1 0).1 11) (fun g => g = h) H (by decide) (fun _ e => by rw [e]) (fun Po q => ct_X9_refusal H (by rw [if_neg a0, if_pos a1]; exact q w h rfl H Fr.id)) (fun u h2 e Hu fu => by subst e; exact hp u Hu fu)
    · simp only [if_neg a1] at hp
      exact ct_L_refusal 0 ((h.1 0).1 10) (fun g => g = h) H (by decide) (fun _ e => by rw [e]) (fun Po q => ct_X9_refusal H (by rw [if_neg a0, if_neg a1]; exact q w h rfl H Fr.id)) (fun u h2 e Hu fu => by subst e; exact hp u Hu fu)
def lBestTub (c : xCo) (N : Nat) : Int32 := if 0 ≤ bsI (bestF c N) then bsI (bestF c N) else -13
theorem la_bestTub {E : xE} {Po : xPo} {w : xW} {x N : Nat} {h : xHi} (H : HI E w x h) (hN : N ≤ 8) (eN : (h.1 0).1 1 = nI N) (hp : ∀ u, HI E u x h → FX w u x h h → Po (.inl (some (.int (lBestTub (h.1 0) N)))) u) : Ct M_L_bestTub E [.ref x] w Po := by
  unfold lBestTub at hp
  by_cases a0 : 0 ≤ bsI (bestF (h.1 0) N)
  · simp only [if_pos a0] at hp
    exact ct_L_bestTub 0 (bsI (bestF (h.1 0) N)) (fun g => g = h) H (by decide) (fun _ e => by rw [e]) (fun Po q => ct_X9_bestTub H hN eN (by rw [if_pos a0]; exact q w h rfl H Fr.id)) (fun u h2 e Hu fu => by subst e; exact hp u Hu fu)
  · simp only [if_neg a0] at hp
    exact ct_L_bestTub 1 0 (fun g => g = h) H (by decide) (fun _ e => by rw [e]) (fun Po q => ct_X9_bestTub H hN eN (by rw [if_neg a0]; exact fun u Hu fu => q u h rfl Hu fu)) (fun u h2 e Hu fu => by subst e; exact hp u Hu fu)
theorem la_number {E : xE} {Po : xPo} {w : xW} {x : Nat} {h : xHi} {y : Int32} (H : HI E w x h) (hc : inC (h.1 0)) (h0 : ¬ y < 0) (h1 : y ≤ 16) (h2 : ¬ y = 15) (h3 : ¬ y = 16) (hp : Po (.inl (some (.int (stToldS (h.1 0) y)))) w) : Ct M_X9_number E [.ref x, .int y] w Po :=
  ct_X9_number H hc (by rw [if_neg h0, if_pos h1, if_neg h2, if_neg h3]; exact hp)
theorem rq_3 {Po : xPo} {w : xW} {z y : Int32} {Pp : Prop} (h1 : ¬ (z < 1 ∨ 3 < z)) (h2 : ¬ (y < 10 ∨ 60 < y)) (hp : Pp) : rqW Po w z y Pp := by
  unfold rqW
  rw [if_neg h1, if_neg (fun q => h2 (Or.inl q)), if_pos (Int32.not_lt.mp (fun q => h2 (Or.inr q)))]; exact hp
def lHA (z t : Int32) : Int32 := if 38 - t ≤ 0 then 0 else if 0 < degS z then (38 - t + degS z - 1) / degS z else 0
theorem la_heatsIn {E : xE} {Po : xPo} {w : xW} {x : Nat} {h : xHi} {z t : Int32} (H : HI E w x h) (h1 : ¬ (z < 1 ∨ 3 < z)) (h2 : ¬ (t < 10 ∨ 60 < t)) (hp : ∀ u, HI E u x h → FX w u x h h → Po (.inl (some (.int (nI (hiF z 60 t 0))))) u) : Ct M_L_heatsIn E [.ref x, .int z, .int t] w Po :=
  ct_L_heatsIn 0 (nI (hiF z 60 t 0)) (fun g => g = h) H (by decide) (fun _ e => by rw [e]) (fun Po q => ct_X9_heatsIn (rq_3 h1 h2 (q w h rfl H Fr.id))) (fun u h2 e Hu fu => by subst e; exact hp u Hu fu)
theorem la_heatsAgain {E : xE} {Po : xPo} {w : xW} {x : Nat} {h : xHi} {z t : Int32} (H : HI E w x h) (h1 : ¬ (z < 1 ∨ 3 < z)) (h2 : ¬ (t < 10 ∨ 60 < t)) (hp : ∀ u, HI E u x h → FX w u x h h → Po (.inl (some (.int (lHA z t)))) u) : Ct M_L_heatsAgain E [.ref x, .int z, .int t] w Po :=
  ct_L_heatsAgain 0 (lHA z t) (fun g => g = h) H (by decide) (fun _ e => by rw [e]) (fun Po q => ct_X9_heatsAgain (rq_3 h1 h2 (q w h rfl H Fr.id))) (fun u h2 e Hu fu => by subst e; exact hp u Hu fu)
def lBath (c d : xCo) (g : Int32) (N : Nat) : Int32 := if awtS c g N 0 = 0 then -13 else if 0 ≤ (hbF g N 60 1 d).1 then (hbF g N 60 1 d).1 else -13
theorem la_bathesIn {E : xE} {Po : xPo} {w : xW} {x N : Nat} {h : xHi} {g : Int32} (H : HI E w x h) (inv : xCo → Prop) (hi : ∀ c, inv c → inC c ∧ N ≤ 5 ∧ c.1 2 = nI N ∧ inv (passS c 1).2) (hi0 : inC (h.1 0)) (hN : N ≤ 5) (eN : (h.1 0).1 2 = nI N) (hv : inv (cpS (h.1 1) (h.1 0)))
    (hp : ∀ u h2, (∃ c, h2 = upS h 1 c) → HI E u x h2 → FX w u x h h2 → Po (.inl (some (.int (lBath (h.1 0) (cpS (h.1 1) (h.1 0)) g N)))) u) : Ct M_L_bathesIn E [.ref x, .int g] w Po := by
  unfold lBath at hp
  by_cases a0 : awtS (h.1 0) g N 0 = 0
  · simp only [if_pos a0] at hp
    exact ct_L_bathesIn 1 0 (fun g => ∃ c, g = upS h 1 c) H (by decide) (fun _ ⟨c, e⟩ => by rw [e]; rfl) (fun Po q => ct_X9_bathesIn H inv hi hi0 hN eN hv (fun u h2 Hu e fu => by rw [if_pos a0]; exact q u h2 e Hu fu)) hp
  · simp only [if_neg a0] at hp
    by_cases a1 : 0 ≤ (hbF g N 60 1 (cpS (h.1 1) (h.1 0))).1
    · simp only [if_pos a1] at hp
      exact ct_L_bathesIn 0 _ (fun g => ∃ c, g = upS h 1 c) H (by decide) (fun _ ⟨c, e⟩ => by rw [e]; rfl) (fun Po q => ct_X9_bathesIn H inv hi hi0 hN eN hv (fun u h2 Hu e fu => by rw [if_neg a0, if_pos a1]; exact q u h2 e Hu fu)) hp
    · simp only [if_neg a1] at hp
      exact ct_L_bathesIn 1 0 (fun g => ∃ c, g = upS h 1 c) H (by decide) (fun _ ⟨c, e⟩ => by rw [e]; rfl) (fun Po q => ct_X9_bathesIn H inv hi hi0 hN eN hv (fun u h2 Hu e fu => by rw [if_neg a0, if_neg a1]; exact q u h2 e Hu fu)) hp
theorem la_undo {E : xE} {Po : xPo} {w : xW} {x n : Nat} {h : xHi} (H : HI E w x h) (hn : n + 1 ≤ 8) (en : h.2.1.2 = nI (n + 1)) (hp : ∀ u, HI E u x (upS (h.1, ((h.2.1.1 + 8) % 9, nI n), h.2.2) 0 (cpS (h.1 0) (h.1 (3 + ((h.2.1.1 + 8) % 9))))) → FX w u x h (upS (h.1, ((h.2.1.1 + 8) % 9, nI n), h.2.2) 0 (cpS (h.1 0) (h.1 (3 + ((h.2.1.1 + 8) % 9))))) → Po (.inl (some (.int (nI n)))) u) : Ct M_L_undo E [.ref x] w Po := by
  have e1 : h.2.1.2 - 1 = nI n := by rw [en]; exact nI_pred n
  have e0 : ¬ h.2.1.2 = 0 := by rw [en]; exact nI_ne0 (by omega) (by omega)
  exact ct_L_undo 0 (nI n) (fun g => g = upS (h.1, ((h.2.1.1 + 8) % 9, nI n), h.2.2) 0 (cpS (h.1 0) (h.1 (3 + ((h.2.1.1 + 8) % 9))))) H (by decide) (fun _ e => by rw [e]; rfl) (fun Po q => ct_X9_undo H (by
    rw [if_neg e0, e1]
    exact fun u Hu fu => q u _ rfl Hu fu)) (fun u h2 e Hu fu => by subst e; exact hp u Hu fu)
