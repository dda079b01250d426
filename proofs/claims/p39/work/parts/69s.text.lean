/-! ===== 69s.text: texts that the law makes (laid by wip/p39/gen/make69s.py) ===== -/
theorem HI.lt9 {E : xE} {u : xW} {x q : Nat} {h : xHi} (H : HI E u x h) (hq : HF x h q) : q < u.2 := by
  have h1 := H.2.2.2.2.2.2.1
  have h2 := H.2.2.2.2.2.2.2
  rcases hq with z | z
  · omega
  · rw [z]; exact h1
/-- a builder of the law's own, made since w9 -/
def BB (E : xE) (w9 u : xW) (x : Nat) (h : xHi) (b : Nat) (B : xBd) (l : List Int32) : Prop := HB E u b B ∧ hasL B l ∧ (w9.2 ≤ b ∧ ¬ HF x h b) ∧ (w9.2 ≤ B.1 ∧ ¬ HF x h B.1)
theorem BB.fx {E : xE} {w9 u v : xW} {x b : Nat} {h h2 : xHi} {B : xBd} {l : List Int32} (Y : BB E w9 u x h b B l) (F : FX u v x h h2) : BB E w9 v x h2 b B l := by
  obtain ⟨⟨y1, y2, y3, y4⟩, L, ⟨p1, p2⟩, q1, q2⟩ := Y
  obtain ⟨a1, a2, a3⟩ := FO.fx (⟨y1, p2, Nat.lt_trans y3 y4⟩ : FO u x h b _) F
  obtain ⟨b1, b2, b3⟩ := FO.fx (⟨y2, q2, y4⟩ : FO u x h B.1 _) F
  exact ⟨⟨a1, b1, y3, b3⟩, L, ⟨p1, a2⟩, q1, b2⟩
theorem bb_st {E : xE} {w9 u v : xW} {x b : Nat} {h h9 : xHi} {B B2 : xBd} {l l2 : List Int32} (Y : BB E w9 u x h b B l) (H : HI E u x h) (X : FX w9 u x h9 h) (K : HB E v b B2) (L2 : hasL B2 l2) (F : FB u v b B B2) : HI E v x h ∧ FX w9 v x h9 h ∧ BB E w9 v x h b B2 l2 := by
  obtain ⟨⟨y1, y2, y3, y4⟩, L, ⟨p1, p2⟩, q1, q2⟩ := Y
  obtain ⟨f1, f2, f3⟩ := F
  refine ⟨H.ag (fun q hq => f2 q (fun e => p2 (e ▸ hq)) (fun e => q2 (e ▸ hq)) (H.lt9 hq)) f1, ⟨⟨Nat.le_trans X.1.1 f1, fun q hq hl => (f2 q (by omega) (by omega) (by have := X.1.1; omega)).trans (X.1.2 q hq hl)⟩, X.2⟩, K, L2, ⟨p1, p2⟩, ?_⟩
  have := X.1.1
  rcases f3 with e | e
  · rw [e]; exact ⟨q1, q2⟩
  · exact ⟨by omega, fun z => by have := H.lt9 z; omega⟩
theorem FO.bb {E : xE} {w9 u v : xW} {x b a : Nat} {h : xHi} {B B2 : xBd} {l : List Int32} {e : va_E} (O : FO u x h a e) (Y : BB E w9 u x h b B l) (ha : a < w9.2) (F : FB u v b B B2) : FO v x h a e := by
  obtain ⟨-, -, ⟨p1, -⟩, q1, -⟩ := Y
  exact ⟨(F.2.1 a (by omega) (by omega) O.2.2).trans O.1, O.2.1, Nat.lt_of_lt_of_le O.2.2 F.1⟩
def newB (E : xE) (w : xW) : xW := xset (xadd (xadd w (.inr (1, [.null, .int 0, .int 0, .int 0]))) (.inl (E.1.2 7, 16, .inl (fun _ => 0)))) w.2 (sbdE (w.2 + 1) 0 0)
def newT (w : xW) : xBd := (w.2 + 1, 16, 0, 0, fun _ => 0)
theorem newB_o {E : xE} {w : xW} {q : Nat} (h : q < w.2) : (newB E w).1 q = w.1 q :=
  (xset_o (show q ≠ w.2 by omega)).trans ((xadd_o (show q ≠ w.2 + 1 by omega)).trans (xadd_o (show q ≠ w.2 by omega)))
theorem bb_new {E : xE} {w9 w : xW} {x : Nat} {h h9 : xHi} (H : HI E w x h) (X : FX w9 w x h9 h) : HI E (newB E w) x h ∧ FX w9 (newB E w) x h9 h ∧ BB E w9 (newB E w) x h w.2 (newT w) [] ∧ FX w (newB E w) x h h := by
  have hz : w.2 ≤ (newB E w).2 := by show w.2 ≤ w.2 + 1 + 1; omega
  have X2 : FX w (newB E w) x h h := ⟨⟨hz, fun q _ hl => newB_o hl⟩, Or.inl rfl⟩
  refine ⟨H.ag (fun q hq => newB_o (H.lt9 hq)) hz, X.tr X2, ⟨⟨xset_s, ?_, Nat.lt_succ_self _, ?_⟩, ⟨rfl, Nat.zero_le _, ⟨Or.inl rfl, (by decide : 16 ≤ 125)⟩, fun j hj => absurd hj (Nat.not_lt_zero j), fun y hy => absurd hy List.not_mem_nil, fun j => rfl⟩, ⟨X.1.1, fun z => by have := H.lt9 z; omega⟩, ⟨(by have := X.1.1; show w9.2 ≤ w.2 + 1; omega), fun z => by have := H.lt9 z; have : (newT w).1 = w.2 + 1 := rfl; omega⟩⟩, X2⟩
  · show (xset _ w.2 _).1 (w.2 + 1) = _
    rw [xset_o (show w.2 + 1 ≠ w.2 by omega)]
    exact xadd_s
  · show w.2 + 1 < w.2 + 1 + 1
    omega
section BLD
variable {E : xE} {Po : xPo} {w9 u : xW} {x b : Nat} {h h9 : xHi} {B : xBd} {l : List Int32}
theorem bl_k {i : Nat} (Y : BB E w9 u x h b B l) (H : HI E u x h) (X : FX w9 u x h9 h) (hi : i < 54) (hl : l.length + (byts i).length ≤ 60) (hp : ∀ (v : xW) (B2 : xBd), HI E v x h → FX w9 v x h9 h → BB E w9 v x h b B2 (l ++ byts i) → FB u v b B B2 → Po (.inl (some (.ref b))) v) : Ct M_J4_append_15ec4 E [.ref b, .ref (kS E i)] u Po :=
  ct_J4_append_15ec4 (va := B.1) (cap := B.2.1) (ml := B.2.2.1) (ct := B.2.2.2.1) (f := B.2.2.2.2) Y.1 Y.2.1 hi hl (fun v B2 K L F => by
    obtain ⟨a1, a2, a3⟩ := bb_st Y H X K L F
    exact hp v B2 a1 a2 a3 F)
theorem bl_c {y : Int32} (Y : BB E w9 u x h b B l) (H : HI E u x h) (X : FX w9 u x h9 h) (hy : okB y) (hl : l.length + 1 ≤ 60) (hp : ∀ (v : xW) (B2 : xBd), HI E v x h → FX w9 v x h9 h → BB E w9 v x h b B2 (l ++ [y]) → FB u v b B B2 → Po (.inl (some (.ref b))) v) : Ct M_J4_append_cf468 E [.ref b, .int y] u Po :=
  ct_J4_append_cf468 (va := B.1) (cap := B.2.1) (ml := B.2.2.1) (ct := B.2.2.2.1) (f := B.2.2.2.2) Y.1 Y.2.1 hy hl (fun v B2 K L F => by
    obtain ⟨a1, a2, a3⟩ := bb_st Y H X K L F
    exact hp v B2 a1 a2 a3 F)
theorem bl_d {a : Nat} (Y : BB E w9 u x h b B l) (H : HI E u x h) (X : FX w9 u x h9 h) (ha : a < 1000) (hl : l.length + (digs a).length ≤ 60) (hp : ∀ (v : xW) (B2 : xBd), HI E v x h → FX w9 v x h9 h → BB E w9 v x h b B2 (l ++ digs a) → FB u v b B B2 → Po (.inl (some (.ref b))) v) : Ct M_J4_append_bf812 E [.ref b, .int (nI a)] u Po :=
  ct_J4_append_bf812 (va := B.1) (cap := B.2.1) (ml := B.2.2.1) (ct := B.2.2.2.1) (f := B.2.2.2.2) Y.1 Y.2.1 ha hl (fun v B2 K L F => by
    obtain ⟨a1, a2, a3⟩ := bb_st Y H X K L F
    exact hp v B2 a1 a2 a3 F)
/-- a text of the law's own, made since the builder -/
def TT (E : xE) (u : xW) (x : Nat) (h : xHi) (s va : Nat) (g : Nat → Int32) (l : List Int32) : Prop := FO u x h s (stE va) ∧ FO u x h va (.inl (E.1.2 7, l.length, .inl g)) ∧ hasX g l
theorem bl_s {s va : Nat} {g : Nat → Int32} {l9 : List Int32} (Y : BB E w9 u x h b B l) (H : HI E u x h) (X : FX w9 u x h9 h) (T : TT E u x h s va g l9) (hs : s ≠ b ∧ s ≠ B.1) (hv : va ≠ b ∧ va ≠ B.1) (hl : l.length + l9.length ≤ 60) (hp : ∀ (v : xW) (B2 : xBd), HI E v x h → FX w9 v x h9 h → BB E w9 v x h b B2 (l ++ l9) → FB u v b B B2 → Po (.inl (some (.ref b))) v) : Ct M_J4_append_15ec4 E [.ref b, .ref s] u Po :=
  hs_append (va := B.1) (cap := B.2.1) (ml := B.2.2.1) (ct := B.2.2.2.1) (f := B.2.2.2.2) Y.1 Y.2.1 ⟨T.1.1, T.2.1.1⟩ T.2.2 ⟨hs.1, hs.2, T.1.2.2⟩ ⟨hv.1, hv.2, T.2.1.2.2⟩ hl (fun v B2 K L F => by
    obtain ⟨a1, a2, a3⟩ := bb_st Y H X K L F
    exact hp v B2 a1 a2 a3 F)
theorem bl_t (Y : BB E w9 u x h b B l) (H : HI E u x h) (X : FX w9 u x h9 h) (hl : l.length ≠ 16 ∧ l.length < 34) (hp : ∀ (v : xW) (g : Nat → Int32), HI E v x h → FX u v x h h → FX w9 v x h9 h → TT E v x h u.2 (u.2 + 1) g l → Po (.inl (some (.ref u.2))) v) : Ct M_J4_toString_0e30d E [.ref b] u Po :=
  ct_J4_toString_0e30d (va := B.1) (cap := B.2.1) (ml := B.2.2.1) (ct := B.2.2.2.1) (f := B.2.2.2.2) Y.1 Y.2.1 hl (fun v g T Xl e o => by
    have F : FX u v x h h := ⟨⟨by omega, fun q _ hl => o q hl⟩, Or.inl rfl⟩
    exact hp v g (H.ag (fun q hq => o q (H.lt9 hq)) (by omega)) F (X.tr F) ⟨⟨T.1, fun z => by have := H.lt9 z; omega, by omega⟩, ⟨T.2, fun z => by have := H.lt9 z; omega, by omega⟩, Xl⟩)
end BLD
theorem nw_init {E : xE} {Po : xPo} {w : xW} (hp : Po (.inl none) (newB E w)) : Ct M_J4_init_da8c8 E [.ref w.2] (xadd w (.inr (1, [.null, .int 0, .int 0, .int 0]))) Po :=
  ct_J4_init_da8c8 (Nat.lt_succ_self _) xadd_s hp
