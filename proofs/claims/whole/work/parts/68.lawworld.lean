/-! ===== 68.lawworld: the law's world, between its calls ===== -/
theorem xL.of2 {ls : Array Slot} {nL : Nat} {L : List (Option Value)} {i : Nat} {v : Value} (h1 : xOne L i) (h9 : L[i + 1]? = some none)
    (h : lv_has ls nL ((i, v) :: (L.zipIdx.filterMap (fun q => q.1.map (fun v => (q.2, v)))).filter (fun q => !(q.1 == i) && (!(q.1 == i + 1) && !(q.1 + 1 == i && q.2.category == 2))))) : xL ls nL (L.set i (some v)) := by
  refine ⟨h.1, h.2.1, fun j u hj => ?_⟩
  by_cases hij : j = i
  · subst hij
    have hl : j < L.length := by
      have := (List.getElem?_eq_some_iff.mp hj).1
      simpa using this
    rw [List.getElem?_set_self hl] at hj
    have e9 : v = u := Option.some.inj (Option.some.inj hj)
    subst e9
    exact h.2.2 (_, _) List.mem_cons_self
  · rw [List.getElem?_set_ne (Ne.symm hij)] at hj
    refine h.2.2 (j, u) (List.mem_cons_of_mem _ (List.mem_filter.mpr ⟨xL.mem hj, ?_⟩))
    have hc : ¬ (j + 1 = i ∧ u.category = 2) := by
      rintro ⟨e1, e2⟩
      have h3 := h1 u (by omega) (by rw [show i - 1 = j by omega]; exact hj)
      omega
    have hj1 : j ≠ i + 1 := fun e => by
      rw [e, h9] at hj
      exact nomatch (Option.some.inj hj)
    simp only [Bool.and_eq_true, Bool.not_eq_true', beq_eq_false_iff_ne, ne_eq, Bool.and_eq_false_iff]
    refine ⟨hij, hj1, ?_⟩
    by_cases e1 : j + 1 = i
    · right
      exact fun e2 => hc ⟨e1, e2⟩
    · left; exact e1
section XSTORES
variable {M M2 : xM} {E : xE} {Po : xPo} {w0 w : xW} {pc q : Nat} {L : List (Option Value)} {st : List Value} {k n : Nat}
theorem r_dstore {i : Nat} {x : UInt64} (hd : decode (mC M) pc = .ok (.dstore i, 2)) (hi : i + 1 < mL M) (h1 : xOne L i) (h9 : L[i + 1]? = some none) (hq : pc + 2 = q) (kk : WF M E Po w0 q (L.set i (some (.double x))) st w k n) : WF M E Po w0 pc L (.double x :: st) w k n := by
  subst hq
  intro p l e s m args below meth c H locs ls C hP hs hS hl
  exact lv_dstore C.1 C.2.1 hd hl.has hi rfl (fun ls2 h2 => kk p l e s m args below meth c H locs ls2 C hP hs hS (xL.of2 h1 h9 h2))
theorem r_fstore {i : Nat} {x : UInt32} (hd : decode (mC M) pc = .ok (.fstore i, 2)) (hi : i < mL M) (h1 : xOne L i) (hq : pc + 2 = q) (kk : WF M E Po w0 q (L.set i (some (.float x))) st w k n) : WF M E Po w0 pc L (.float x :: st) w k n := by
  subst hq
  intro p l e s m args below meth c H locs ls C hP hs hS hl
  exact lv_fstore C.1 C.2.1 hd hl.has hi rfl (fun ls2 h2 => kk p l e s m args below meth c H locs ls2 C hP hs hS (xL.of h1 h2))
end XSTORES
/-- the two arrays that answers are told in -/
abbrev lgE (E : xE) (f : Nat → Int64) : va_E := .inl (E.1.2 8, 1, .inr (.inl f))
abbrev dbE (E : xE) (f : Nat → UInt64) : va_E := .inl (E.1.2 9, 1, .inr (.inr (.inr (.inl f))))
/-- the law's world, apart from what the arrays hold -/
def LS0 (E : xE) (w : xW) (x : Nat) (h : xHi) (d : xCo) (r : mRs) (o : Nat → Int32) (t : mTx) : Prop := HI E w x h ∧ (∀ q, q < 10 → w.1 (x + 331 + q) = some (mdC E (x + 331) d r o t q)) ∧ (h.2.2.2.2.1 = x + 330 ∨ x + 343 ≤ h.2.2.2.2.1) ∧ x + 343 ≤ w.2
def LSA (E : xE) (w : xW) (x : Nat) : Prop := (∃ f, w.1 (x + 341) = some (lgE E f)) ∧ ∃ f, w.1 (x + 342) = some (dbE E f)
theorem ls_ax {x : Nat} {h : xHi} {q : Nat} (h1 : h.2.2.2.2.1 = x + 330 ∨ x + 343 ≤ h.2.2.2.2.1) (h2 : x + 331 ≤ q) (h3 : q < x + 343) : ¬ HF x h q := fun z => by
  rcases z with z | z
  · omega
  · omega
/-- behind the hire's call -/
theorem LS0.call {E : xE} {w u : xW} {x : Nat} {h h2 : xHi} {d : xCo} {r : mRs} {o : Nat → Int32} {t : mTx} (S : LS0 E w x h d r o t) (A : LSA E w x) (q2 : h2.2.2.2.2.1 = h.2.2.2.2.1 ∨ w.2 ≤ h2.2.2.2.2.1) (q3 : HI E u x h2) (q4 : Fr w u x h) : LS0 E u x h2 d r o t ∧ LSA E u x := by
  obtain ⟨s1, s2, s3, s4⟩ := S
  obtain ⟨⟨f, a1⟩, g, a2⟩ := A
  have kp : ∀ q, x + 331 ≤ q → q < x + 343 → u.1 q = w.1 q := fun q h1 h2 => q4.2 q (ls_ax s3 h1 h2) (by omega)
  exact ⟨⟨q3, fun q hq => (kp _ (by omega) (by omega)).trans (s2 q hq), by rcases q2 with e | e; · rw [e]; exact s3
                                                                           · exact Or.inr (by omega), Nat.le_trans s4 q4.1⟩, ⟨f, (kp _ (by omega) (by omega)).trans a1⟩, ⟨g, (kp _ (by omega) (by omega)).trans a2⟩⟩
theorem LS0.set {E : xE} {w : xW} {x a : Nat} {e : va_E} {h : xHi} {d : xCo} {r : mRs} {o : Nat → Int32} {t : mTx} (S : LS0 E w x h d r o t) (h1 : x + 341 ≤ a) (h2 : a ≤ x + 342) : LS0 E (xset w a e) x h d r o t := by
  obtain ⟨s1, s2, s3, s4⟩ := S
  exact ⟨s1.ag (fun q hq => xset_o (fun z => ls_ax s3 (by omega) (by omega) hq)) (Nat.le_refl _), fun q hq => (xset_o (by omega)).trans (s2 q hq), s3, s4⟩
/-- behind the reference's call -/
theorem LS0.md {E : xE} {w : xW} {x : Nat} {h : xHi} {d d2 : xCo} {r r2 : mRs} {o o2 : Nat → Int32} {t t2 : mTx} (S : LS0 E w x h d r o t) : LS0 E (md E w (x + 331) d2 r2 o2 t2) x h d2 r2 o2 t2 := by
  obtain ⟨s1, s2, s3, s4⟩ := S
  exact ⟨s1.ag (fun q hq => md_out (by
    by_cases z : q < x + 331 ∨ x + 331 + 10 ≤ q
    · exact z
    · exact absurd hq (ls_ax s3 (by omega) (by omega)))) (Nat.le_refl _), fun q hq => md_in hq, s3, s4⟩
theorem LSA.md {E : xE} {w : xW} {x : Nat} {d2 : xCo} {r2 : mRs} {o2 : Nat → Int32} {t2 : mTx} (A : LSA E w x) : LSA E (md E w (x + 331) d2 r2 o2 t2) x := by
  obtain ⟨⟨f, a1⟩, g, a2⟩ := A
  exact ⟨⟨f, (md_out (Or.inr (by omega))).trans a1⟩, ⟨g, (md_out (Or.inr (by omega))).trans a2⟩⟩
/-- behind a try: the answer's kind k9, and in the array the answer -/
def TW (E : xE) (w : xW) (x : Nat) (h : xHi) (d : xCo) (r : mRs) (o : Nat → Int32) (t : mTx) (k9 : Nat) (V : Int64) : Prop := LS0 E w x h d r o t ∧ LSA E w x ∧ ∃ f, w.1 (x + 341) = some (lgE E f) ∧ (k9 = 0 → f 0 = V)
def TD (E : xE) (w : xW) (x : Nat) (h : xHi) (d : xCo) (r : mRs) (o : Nat → Int32) (t : mTx) (k9 : Nat) (V : UInt64) : Prop := LS0 E w x h d r o t ∧ LSA E w x ∧ ∃ f, w.1 (x + 342) = some (dbE E f) ∧ (k9 = 0 → f 0 = V)
theorem tw_join {E : xE} {w u : xW} {x k9 : Nat} {v : Int32} {h h2 : xHi} {d : xCo} {r : mRs} {o : Nat → Int32} {t : mTx} {f0 : Nat → Int64} {Pp : (Option Value ⊕ String) → xW → Prop} (S : LS0 E w x h d r o t) (A : LSA E w x) (q2 : h2.2.2.2.2.1 = h.2.2.2.2.1 ∨ w.2 ≤ h2.2.2.2.2.1) (q3 : HI E u x h2) (q4 : Fr w u x h)
    (kk : ∀ u2, TW E u2 x h2 d r o t k9 v.toInt64 → Pp (.inl (some (.int (nI k9)))) u2) : if k9 = 0 then Pp (.inl (some (.int 0))) (xset u (x + 341) (lgE E (vp_updL f0 (0 : Int32).toNatClampNeg v.toInt64))) else Pp (.inl (some (.int (nI k9)))) u := by
  obtain ⟨a, b⟩ := S.call A q2 q3 q4
  obtain ⟨⟨f, b1⟩, g, b2⟩ := id b
  by_cases k0 : k9 = 0
  · subst k0
    rw [if_pos rfl]
    exact kk _ ⟨a.set (by omega) (by omega), ⟨⟨_, xset_s⟩, ⟨g, (xset_o (by omega)).trans b2⟩⟩, _, xset_s, fun _ => if_pos rfl⟩
  · rw [if_neg k0]
    exact kk _ ⟨a, b, f, b1, fun z => absurd z k0⟩
theorem td_join {E : xE} {w u : xW} {x k9 : Nat} {v : UInt64} {h h2 : xHi} {d : xCo} {r : mRs} {o : Nat → Int32} {t : mTx} {f0 : Nat → UInt64} {Pp : (Option Value ⊕ String) → xW → Prop} (S : LS0 E w x h d r o t) (A : LSA E w x) (q2 : h2.2.2.2.2.1 = h.2.2.2.2.1 ∨ w.2 ≤ h2.2.2.2.2.1) (q3 : HI E u x h2) (q4 : Fr w u x h)
    (kk : ∀ u2, TD E u2 x h2 d r o t k9 v → Pp (.inl (some (.int (nI k9)))) u2) : if k9 = 0 then Pp (.inl (some (.int 0))) (xset u (x + 342) (dbE E (vf_upd f0 (0 : Int32).toNatClampNeg v))) else Pp (.inl (some (.int (nI k9)))) u := by
  obtain ⟨a, b⟩ := S.call A q2 q3 q4
  obtain ⟨⟨f, b1⟩, g, b2⟩ := id b
  by_cases k0 : k9 = 0
  · subst k0
    rw [if_pos rfl]
    exact kk _ ⟨a.set (by omega) (by omega), ⟨⟨f, (xset_o (by omega)).trans b1⟩, ⟨_, xset_s⟩⟩, _, xset_s, fun _ => if_pos rfl⟩
  · rw [if_neg k0]
    exact kk _ ⟨a, b, g, b2, fun z => absurd z k0⟩
/-- BETWEEN TWO CALLS -/
def LWS (E : xE) (w : xW) (x K : Nat) (h : xHi) (d : xCo) (r : mRs) (o : Nat → Int32) (t : mTx) : Prop := LS0 E w x h d r o t ∧ LSA E w x ∧ IV K h d r o t
section FPP
variable {E : xE} {x m K : Nat} {h : xHi} {d : xCo} {r : mRs} {o : Nat → Int32} {t : mTx}
theorem pr_meanWarmth (I : IV K h d r o t) : ∃ (k : Nat) (v v2 : UInt64), k ≤ 1 ∧ (k = 0 → v2 = v ∧ vf_n64 v) ∧
    (∀ w, HI E w x h → ∀ Po : xPo, (∀ u h2, h2 = h → (h2.2.2.2.2.1 = h.2.2.2.2.1 ∨ w.2 ≤ h2.2.2.2.2.1) → HI E u x h2 → Fr w u x h → Po (rsD ["java/lang/ArithmeticException"] k v) u) → Ct M_X9_meanWarmth E (.ref x :: []) w Po) ∧
    (∀ (w2 : xW) (Po : xPo), Po (.inl (some (.double v2))) (md E w2 m d r (upd o 2 (nI k)) t) → Ct M_X10_meanWarmth E (.ref m :: []) (md E w2 m d r o t) Po) := by
  obtain ⟨⟨⟨R, J, U⟩, -⟩, -⟩ := id I
  have a8 := J.1.1
  have ed : d.1 1 = nI (n1 (h.1 0)) := (R.1 1 (by decide)).symm.trans a8.1
  obtain ⟨s, q, hs, hq, e1, e2, e3, e4⟩ := mean_e R J (n1 (h.1 0)) (Nat.le_refl _)
  have hne : ¬ nI q = 0 → vf_n64 (FP.ddiv (FP.i2d (nI s)) (FP.i2d (nI q))) := fun z => mean_n (by omega) (by omega) (fun y => z (by rw [y]; rfl))
  by_cases q0 : nI q = 0
  · refine ⟨1, 0, 0, Nat.le_refl _, fun z => absurd z (by decide), fun w H Po hp => ct_X9_meanWarmth H a8.2 a8.1 (by rw [e1, e2]; exact hne) ?_, fun w2 Po hp => ct_X10_meanWarmth a8.2 ed (by rw [e3, e4]; exact hne) ?_⟩
    · rw [e2, if_pos q0]; exact fun u hu fu => hp u h rfl (Or.inl rfl) hu fu
    · rw [e4, if_pos q0]; exact hp
  · refine ⟨0, _, _, Nat.zero_le _, fun _ => ⟨rfl, hne q0⟩, fun w H Po hp => ct_X9_meanWarmth H a8.2 a8.1 (by rw [e1, e2]; exact hne) ?_, fun w2 Po hp => ct_X10_meanWarmth a8.2 ed (by rw [e3, e4]; exact hne) ?_⟩
    · rw [e2, e1, if_neg q0]; exact hp w h rfl (Or.inl rfl) H Fr.id
    · rw [e4, e3, if_neg q0]; exact hp
theorem pr_bathedShare (I : IV K h d r o t) (hK : K < 16000000) : ∃ (k : Nat) (v v2 : UInt32), k ≤ 1 ∧ (k = 0 → v2 = v ∧ vf_n64 (FP.f2d v)) ∧
    (∀ w, HI E w x h → ∀ Po : xPo, (∀ u h2, h2 = h → (h2.2.2.2.2.1 = h.2.2.2.2.1 ∨ w.2 ≤ h2.2.2.2.2.1) → HI E u x h2 → Fr w u x h → Po (rsF ["java/lang/ArithmeticException"] k v) u) → Ct M_X9_bathedShare E (.ref x :: []) w Po) ∧
    (∀ (w2 : xW) (Po : xPo), Po (.inl (some (.float v2))) (md E w2 m d r (upd o 2 (nI k)) t) → Ct M_X10_bathedShare E (.ref m :: []) (md E w2 m d r o t) Po) := by
  obtain ⟨⟨⟨R, J, U⟩, -⟩, -⟩ := id I
  obtain ⟨-, ⟨b, hb, eb⟩, ⟨a, ha, ea⟩, -⟩ := J.2.1
  have e8 : d.1 8 = nI b := (R.1 8 (by decide)).symm.trans eb
  have e9 : d.1 9 = nI a := (R.1 9 (by decide)).symm.trans ea
  have n0 : ¬ nI b = 0 → b ≠ 0 := fun z y => z (by rw [y]; rfl)
  by_cases q0 : nI b = 0
  · refine ⟨1, 0, 0, Nat.le_refl _, fun z => absurd z (by decide), fun w H Po hp => ct_X9_bathedShare H (by rw [eb]; exact fun z => absurd q0 z) ?_, fun w2 Po hp => ct_X10_bathedShare (by rw [e8]; exact fun z => absurd q0 z) ?_⟩
    · rw [eb, if_pos q0]; exact fun u hu fu => hp u h rfl (Or.inl rfl) hu fu
    · rw [e8, if_pos q0]; exact hp
  · have hn := fdiv_n (a := a) (b := b) (by omega) (by omega) (n0 q0)
    refine ⟨0, FP.fdiv (FP.i2f (nI a)) (FP.i2f (nI b)), FP.fdiv (FP.i2f (nI a)) (FP.i2f (nI b)), Nat.zero_le _, fun _ => ⟨rfl, fdiv_d (by omega) (by omega) (n0 q0)⟩, fun w H Po hp => ct_X9_bathedShare H (by rw [ea, eb]; exact fun _ => hn) ?_, fun w2 Po hp => ct_X10_bathedShare (by rw [e8, e9]; exact fun _ => hn) ?_⟩
    · rw [eb, ea, if_neg q0]; exact hp w h rfl (Or.inl rfl) H Fr.id
    · rw [e8, e9, if_neg q0]; exact hp
end FPP
