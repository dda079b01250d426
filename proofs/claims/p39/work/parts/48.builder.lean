/-! ===== 48.builder: StringBuilder as the JDK's code (rows laid by wip/p39/gen/make48.py) ===== -/
/-- a field of an object, whichever class above declares it -/
def xFl2 (M : xM) (idx ci kf : Nat) (ty : FieldType) : Prop :=
  ∃ (C : String) (T : u_T) (N : Nat) (tyf : Nat → FieldType), vwCl[ci]? = some (C, T, N) ∧ kf < N ∧ (∀ w ∈ u_ws C T N, w ∈ mW M) ∧ Cond.fieldLink (mY M).cls idx (T kf).1 (T kf).2.1 (T kf).2.2.1 ∈ mW M ∧ (∀ j, j < N → parseFieldDescriptor (T j).2.2.1 = some (tyf j)) ∧ (∀ a, a < N → ∀ b, b < N → a ≠ b → (T a).2.1 ≠ (T b).2.1) ∧ tyf kf = ty ∧ (T kf).2.2.2 = false
section XFL2
variable {M M2 : xM} {E : xE} {Po : xPo} {w0 w : xW} {pc q : Nat} {L : List (Option Value)} {st : List Value} {k n : Nat}
theorem r_getfS {idx ci kf a : Nat} {ty : FieldType} {fs : List Value} {v : Value} (hd : decode (mC M) pc = .ok (.getfield idx, 3)) (F : xFl2 M idx ci kf ty) (hw : w.1 a = some (.inr (ci, fs))) (hv : fs[kf]? = some v) (hq : pc + 3 = q)
    (kk : WF M E Po w0 q L (v :: st) w k n) : WF M E Po w0 pc L (.ref a :: st) w k n := by
  subst hq
  intro p l e s m args below meth c H locs ls C hP hs hS hl
  obtain ⟨Cn, T, N, tyf, h1, h2, h3, h4, h5, h6, h7, h8⟩ := F
  obtain ⟨c1, c2, c3, c4, c5, c6, c7, c8, c9, c10, c11, c12⟩ := id C
  exact va_get c1 c2 c5 h3 c6 c11.1 (hP.one hw) 0 rfl h1 kf h2 (c5 _ h4) (fun x hx => hx) hv hd (kk p l e s m args below meth c H locs ls C hP hs hS hl)
theorem r_putfS {idx ci kf a : Nat} {ty : FieldType} {fs : List Value} {v : Value} (hd : decode (mC M) pc = .ok (.putfield idx, 3)) (F : xFl2 M idx ci kf ty) (hw : w.1 a = some (.inr (ci, fs))) (hn : narrow ty v = v) (hfit : fits ty v = true) (hlen : kf < fs.length) (hq : pc + 3 = q)
    (kk : WF M E Po w0 q L st (xset w a (.inr (ci, fs.set kf v))) k n) : WF M E Po w0 pc L (v :: .ref a :: st) w k n := by
  subst hq
  intro p l e s m args below meth c H locs ls C hP hs hS hl
  obtain ⟨Cn, T, N, tyf, hc, hk, hin, hlk, hty, hnm, hd9, hfin⟩ := F
  obtain ⟨c1, c2, c3, c4, hts, hown, c7, c8, c9, c10, c11, c12⟩ := id C
  have hK := c11.1
  have hap := va_apart (own := (mY M).cls) hts hin tyf hty hnm hK hc
  obtain ⟨r, h1, cell, q1, q2, q3, q4⟩ := hP.1 a _ hw
  have hr : r = (Cn, T, N) := Option.some.inj (h1.symm.trans hc)
  subst hr
  obtain ⟨hSl, hfc, kC, hkC, hkind⟩ := hK.1 ci _ hc
  obtain ⟨cf, kf9, fi, f, hi, hsl⟩ := hSl kf hk
  have hlay := hts _ (hin _ (u_in_lay hk))
  unfold u_lay at hlay
  rw [if_neg (by rw [hfin]; decide)] at hlay
  have hst := (u_facts hfc hkC (u_lays hts hin hk) hi).1
  have h6 := u_store hfc hkC hkind hlay hi (by rw [hty kf hk, hd9]) hn hfit
  refine W.putK c1 c2 (f := f) ⟨hown, hts _ hlk, ⟨_, _, _, hi⟩, hst⟩ (by rw [q2]; exact h6) q1 q3 (by rw [hsl]; exact k2_hasslot (q4 kf hk)) rfl rfl hd fun H' e1 e2 e3 => ?_
  rw [hsl] at e1 ⊢
  have ha := hs a (xsome hw)
  exact kk p l e s m args below meth c H' _ ls C (hP.put ⟨_, hc, t_OB.to (V := updV (vp_V fs) kf v) ⟨_, e1, q2, q3, t_set q4 hap hk v⟩ (fun j _ => vp_updV_set hlen v j)⟩ e3 e2) (hs.put ha) (hS.put e2 e3 ha) hl
end XFL2
/-- a builder: where its bytes are, how many there is room for, the flag, the count, the bytes -/
abbrev xBd : Type := Nat × Nat × Int32 × Int32 × (Nat → Int32)
def HB (E : xE) (w : xW) (b : Nat) (B : xBd) : Prop := w.1 b = some (sbdE B.1 B.2.2.1 B.2.2.2.1) ∧ w.1 B.1 = some (.inl (E.1.2 7, B.2.1, .inl B.2.2.2.2)) ∧ b < B.1 ∧ B.1 < w.2
/-- a sign of ours -/
def okB (x : Int32) : Prop := ((x &&& 255).toUInt32 % 65536).toInt32 = x ∧ narrow .char (.int x) = .int x ∧ vp_nar .byte x.toInt8.toInt32 = x ∧ vp_nar .byte x = x ∧ fits .byte (.int x) = true ∧ ¬ 255 < x
def hasL (B : xBd) (l : List Int32) : Prop := B.2.2.2.1 = nI l.length ∧ l.length ≤ B.2.1 ∧ ((B.2.1 = 16 ∨ 34 ≤ B.2.1) ∧ B.2.1 ≤ 125) ∧ (∀ j, j < l.length → B.2.2.2.2 j = l.getD j 0) ∧ (∀ x ∈ l, okB x) ∧ sb_Fit B.2.2.2.2
/-- what may change while a builder is written -/
def FB (w u : xW) (b : Nat) (B B2 : xBd) : Prop := w.2 ≤ u.2 ∧ (∀ a, a ≠ b → a ≠ B.1 → a < w.2 → u.1 a = w.1 a) ∧ (B2.1 = B.1 ∨ w.2 ≤ B2.1)
theorem FB.id {w : xW} {b : Nat} {B : xBd} : FB w w b B B := ⟨Nat.le_refl _, fun _ _ _ _ => rfl, Or.inl rfl⟩
theorem FB.trans {w u v : xW} {b : Nat} {B B2 B3 : xBd} (h : FB w u b B B2) (g : FB u v b B2 B3) : FB w v b B B3 := by
  obtain ⟨h1, h2, h3⟩ := h
  obtain ⟨g1, g2, g3⟩ := g
  refine ⟨Nat.le_trans h1 g1, fun a ha hb hl => (g2 a ha ?_ (Nat.lt_of_lt_of_le hl h1)).trans (h2 a ha hb hl), ?_⟩
  · rcases h3 with e | e
    · rw [e]; exact hb
    · omega
  · rcases g3 with e | e
    · rw [e]; exact h3
    · exact Or.inr (Nat.le_trans h1 e)
theorem HB.put {E : xE} {w : xW} {b va cap : Nat} {ml ct ct2 ml2 : Int32} {f f2 : Nat → Int32} (H : HB E w b (va, cap, ml, ct, f)) : HB E (xset (xset w va (.inl (E.1.2 7, cap, .inl f2))) b (sbdE va ml2 ct2)) b (va, cap, ml2, ct2, f2) := by
  obtain ⟨h1, h2, h3, h4⟩ := H
  dsimp only at h3
  exact ⟨xset_s, (xset_o (Nat.ne_of_gt h3)).trans xset_s, h3, h4⟩
theorem HB.putC {E : xE} {w : xW} {b va cap : Nat} {ml ct ct2 ml2 : Int32} {f : Nat → Int32} (H : HB E w b (va, cap, ml, ct, f)) : HB E (xset w b (sbdE va ml2 ct2)) b (va, cap, ml2, ct2, f) := by
  obtain ⟨h1, h2, h3, h4⟩ := H
  dsimp only at h3
  exact ⟨xset_s, (xset_o (Nat.ne_of_gt h3)).trans h2, h3, h4⟩
theorem FB.put {w u : xW} {b va cap : Nat} {ml ct ct2 ml2 : Int32} {f f2 : Nat → Int32} {e e2 : va_E} {B : xBd} (h : FB w u b B (va, cap, ml, ct, f)) : FB w (xset (xset u va e) b e2) b B (va, cap, ml2, ct2, f2) := by
  obtain ⟨h1, h2, h3⟩ := h
  refine ⟨h1, fun a ha hb hl => ?_, h3⟩
  refine (xset_o ha).trans ((xset_o ?_).trans (h2 a ha hb hl))
  dsimp only at h3
  omega
theorem FB.putC {w u : xW} {b va cap : Nat} {ml ct ct2 ml2 : Int32} {f f2 : Nat → Int32} {e2 : va_E} {B : xBd} (h : FB w u b B (va, cap, ml, ct, f)) : FB w (xset u b e2) b B (va, cap, ml2, ct2, f2) := by
  obtain ⟨h1, h2, h3⟩ := h
  exact ⟨h1, fun a ha hb hl => (xset_o ha).trans (h2 a ha hb hl), h3⟩
theorem hasL.app {va cap va2 : Nat} {ml ml2 ct : Int32} {f g : Nat → Int32} {l k : List Int32} (h : hasL (va, cap, ml, ct, f) l) (hc : l.length + k.length ≤ cap) (h1 : ∀ j, j < l.length → g j = f j) (h2 : ∀ j, j < k.length → g (l.length + j) = k.getD j 0) (hk : ∀ x ∈ k, okB x) (hf : sb_Fit g) : hasL (va2, cap, ml2, nI (l.length + k.length), g) (l ++ k) := by
  obtain ⟨a1, a2, a3, a4, a5, a6⟩ := h
  refine ⟨?_, ?_, a3, fun j hj => ?_, fun x hx => ?_, hf⟩
  · show nI _ = nI _
    rw [List.length_append]
  · show _ ≤ cap
    rw [List.length_append]; exact hc
  · show g j = _
    rw [List.length_append] at hj
    by_cases e : j < l.length
    · rw [h1 j e]
      refine (a4 j e).trans ?_
      simp [List.getD_eq_getElem?_getD, List.getElem?_append_left e]
    · have h3 := h2 (j - l.length) (by omega)
      rw [show l.length + (j - l.length) = j by omega] at h3
      rw [h3]
      simp [List.getD_eq_getElem?_getD, List.getElem?_append_right (Nat.not_lt.mp e)]
  · rcases List.mem_append.mp hx with h | h
    · exact a5 x h
    · exact hk x h
theorem nI_ne {a b : Nat} (h : a ≠ b) (ha : a < 2 ^ 31) (hb : b < 2 ^ 31) : ¬ nI a = nI b := fun e => h (by
  have := congrArg Int32.toInt e
  rw [nI_toInt ha, nI_toInt hb] at this
  omega)
theorem nI_a2 (a b : Nat) : nI a + nI b = nI (a + b) := (Int32.ofNat_add a b).symm
theorem mx_nI {a b : Nat} (ha : a < 2 ^ 31) (hb : b < 2 ^ 31) : (if nI a < nI b then nI b else nI a) = nI (if a < b then b else a) := by
  by_cases h : a < b
  · rw [if_pos h, if_pos (nI_lt h hb)]
  · rw [if_neg h, if_neg (nI_nlt (by omega) ha)]
theorem mn_nI {a b : Nat} (h : a ≤ b) (hb : b < 2 ^ 31) : (if nI b < nI a then nI b else nI a) = nI a := if_neg (nI_nlt h hb)
theorem xset_xadd {w : xW} {e e2 : va_E} : xset (xadd w e) w.2 e2 = xadd w e2 := by
  refine Prod.ext ?_ rfl
  funext q
  show (if q = w.2 then some e2 else (if q = w.2 then some e else w.1 q)) = (if q = w.2 then some e2 else w.1 q)
  split <;> rfl
def capN (q m : Nat) : Nat := m + (if q - m < m + 2 then m + 2 else q - m)
theorem sub_le0 {z m : Nat} (hz : z < 100000) (hm : m < 100000) : nI z - nI m ≤ 0 ↔ z ≤ m := by
  rw [Int32.le_iff_toInt_le, pk_sub_toInt (by omega) (by omega), Int32.toInt_zero]
  omega
theorem dJ5_isLatin1_aae02_0 : decode cJ5_isLatin1_aae02 0 = .ok (.getstatic 18, 3) := by decide +kernel
theorem dJ5_isLatin1_aae02_3 : decode cJ5_isLatin1_aae02 3 = .ok (.ifCond .eq 14, 3) := by decide +kernel
theorem dJ5_isLatin1_aae02_6 : decode cJ5_isLatin1_aae02 6 = .ok (.aload_n 0, 1) := by decide +kernel
theorem dJ5_isLatin1_aae02_7 : decode cJ5_isLatin1_aae02 7 = .ok (.getfield 22, 3) := by decide +kernel
theorem dJ5_isLatin1_aae02_10 : decode cJ5_isLatin1_aae02 10 = .ok (.ifCond .ne 7, 3) := by decide +kernel
theorem dJ5_isLatin1_aae02_13 : decode cJ5_isLatin1_aae02 13 = .ok (.iconst 1, 1) := by decide +kernel
theorem dJ5_isLatin1_aae02_14 : decode cJ5_isLatin1_aae02 14 = .ok (.goto 4, 3) := by decide +kernel
theorem dJ5_isLatin1_aae02_17 : decode cJ5_isLatin1_aae02 17 = .ok (.iconst 0, 1) := by decide +kernel
theorem dJ5_isLatin1_aae02_18 : decode cJ5_isLatin1_aae02 18 = .ok (.ireturn, 1) := by decide +kernel
/-- java/lang/AbstractStringBuilder.isLatin1()Z -/
def M_J5_isLatin1_aae02 : xM := (yJ5_isLatin1_aae02, cJ5_isLatin1_aae02, 1, (some FieldType.boolean), Cond.code yJ5_isLatin1_aae02 cJ5_isLatin1_aae02 1 (some FieldType.boolean) :: xAll, { frames := 5, cells := 0, slots := 0, locals := 90 }, (0, 0), [])
theorem bw0 : (Jvm.Cond.fieldLink "java/lang/AbstractStringBuilder" (18 : Nat) "java/lang/String" "COMPACT_STRINGS" "Z") ∈ xAll := xin2 (List.mem_of_getElem? (i := 30) (by decide +kernel)) (by decide +kernel)
theorem g_J5_isLatin1_aae02_18 : Cond.fieldLink (mY M_J5_isLatin1_aae02).cls 18 "java/lang/String" "COMPACT_STRINGS" "Z" ∈ mW M_J5_isLatin1_aae02 := List.mem_cons_of_mem _ (bw0)
theorem bw1 : (Jvm.Cond.fieldLink "java/lang/AbstractStringBuilder" (22 : Nat) "java/lang/AbstractStringBuilder" "coder" "B") ∈ xAll := xin2 (List.mem_of_getElem? (i := 40) (by decide +kernel)) (by decide +kernel)
theorem f_J5_isLatin1_aae02_22 : xFl2 M_J5_isLatin1_aae02 22 1 1 (tyJ4 1) := ⟨RJ4, TJ4, 4, tyJ4, rfl, by decide, fun w h => List.mem_cons_of_mem _ (inJ4 w h), List.mem_cons_of_mem _ (bw1), tyJ4_ok, nmJ4, rfl, rfl⟩
set_option maxRecDepth 100000 in
set_option maxHeartbeats 4000000 in
theorem ct_J5_isLatin1_aae02 {E : xE} {Po : xPo} {w : xW} {b : Nat} {va cap : Nat} {ml ct : Int32} {f : Nat → Int32} (H : HB E w b (va, cap, ml, ct, f)) (hp : Po (.inl (some (.int 1))) w) : Ct M_J5_isLatin1_aae02 E [.ref b] w Po := by
  refine Ct.of (ws2 := xAll) (L := [some (.ref b)]) (by decide +kernel) rfl rfl (List.forall_mem_cons.mpr ⟨rfl, fun _ h => absurd h List.not_mem_nil⟩) (Nat.le_of_ble_eq_true rfl) rfl ?_
  refine r_gets (q := 3) dJ5_isLatin1_aae02_0 g_J5_isLatin1_aae02_18 (k_cs) rfl ?_
  refine r_if_eq (q := 17) (q2 := 6) dJ5_isLatin1_aae02_3 (by decide) rfl (fun h9 => absurd h9 (by decide)) (fun _ => ?_)
  refine r_aload_n (q := 7) dJ5_isLatin1_aae02_6 rfl rfl rfl ?_
  refine r_getfS (q := 10) dJ5_isLatin1_aae02_7 f_J5_isLatin1_aae02_22 H.1 rfl rfl ?_
  refine r_if_ne (q := 17) (q2 := 13) dJ5_isLatin1_aae02_10 (by decide) rfl (fun h9 => absurd rfl h9) (fun _ => ?_)
  refine r_iconst (q := 14) (v := 1) dJ5_isLatin1_aae02_13 rfl rfl ?_
  refine r_goto (q := 18) dJ5_isLatin1_aae02_14 (by decide) ?_
  refine r_zret dJ5_isLatin1_aae02_18 rfl (by decide) (Nat.le_of_ble_eq_true rfl) (Nat.le_of_ble_eq_true rfl) ?_
  exact hp
theorem dJ5_length_8abf5_0 : decode cJ5_length_8abf5 0 = .ok (.aload_n 0, 1) := by decide +kernel
theorem dJ5_length_8abf5_1 : decode cJ5_length_8abf5 1 = .ok (.getfield 79, 3) := by decide +kernel
theorem dJ5_length_8abf5_4 : decode cJ5_length_8abf5 4 = .ok (.ireturn, 1) := by decide +kernel
/-- java/lang/AbstractStringBuilder.length()I -/
def M_J5_length_8abf5 : xM := (yJ5_length_8abf5, cJ5_length_8abf5, 1, (some FieldType.int), Cond.code yJ5_length_8abf5 cJ5_length_8abf5 1 (some FieldType.int) :: xAll, { frames := 5, cells := 0, slots := 0, locals := 90 }, (0, 0), [])
theorem bw2 : (Jvm.Cond.fieldLink "java/lang/AbstractStringBuilder" (79 : Nat) "java/lang/AbstractStringBuilder" "count" "I") ∈ xAll := xin2 (List.mem_of_getElem? (i := 43) (by decide +kernel)) (by decide +kernel)
theorem f_J5_length_8abf5_79 : xFl2 M_J5_length_8abf5 79 1 3 (tyJ4 3) := ⟨RJ4, TJ4, 4, tyJ4, rfl, by decide, fun w h => List.mem_cons_of_mem _ (inJ4 w h), List.mem_cons_of_mem _ (bw2), tyJ4_ok, nmJ4, rfl, rfl⟩
set_option maxRecDepth 100000 in
set_option maxHeartbeats 4000000 in
theorem ct_J5_length_8abf5 {E : xE} {Po : xPo} {w : xW} {b : Nat} {va cap : Nat} {ml ct : Int32} {f : Nat → Int32} (H : HB E w b (va, cap, ml, ct, f)) (hp : Po (.inl (some (.int ct))) w) : Ct M_J5_length_8abf5 E [.ref b] w Po := by
  refine Ct.of (ws2 := xAll) (L := [some (.ref b)]) (by decide +kernel) rfl rfl (List.forall_mem_cons.mpr ⟨rfl, fun _ h => absurd h List.not_mem_nil⟩) (Nat.le_of_ble_eq_true rfl) rfl ?_
  refine r_aload_n (q := 1) dJ5_length_8abf5_0 rfl rfl rfl ?_
  refine r_getfS (q := 4) dJ5_length_8abf5_1 f_J5_length_8abf5_79 H.1 rfl rfl ?_
  refine r_iret dJ5_length_8abf5_4 rfl (Nat.le_of_ble_eq_true rfl) (Nat.le_of_ble_eq_true rfl) ?_
  exact hp
theorem dJ8_newLength_cabcc_0 : decode cJ8_newLength_cabcc 0 = .ok (.iload_n 0, 1) := by decide +kernel
theorem dJ8_newLength_cabcc_1 : decode cJ8_newLength_cabcc 1 = .ok (.iload_n 1, 1) := by decide +kernel
theorem dJ8_newLength_cabcc_2 : decode cJ8_newLength_cabcc 2 = .ok (.iload_n 2, 1) := by decide +kernel
theorem dJ8_newLength_cabcc_3 : decode cJ8_newLength_cabcc 3 = .ok (.invokestatic 194, 3) := by decide +kernel
theorem dJ8_newLength_cabcc_6 : decode cJ8_newLength_cabcc 6 = .ok (.iadd, 1) := by decide +kernel
theorem dJ8_newLength_cabcc_7 : decode cJ8_newLength_cabcc 7 = .ok (.istore_n 3, 1) := by decide +kernel
theorem dJ8_newLength_cabcc_8 : decode cJ8_newLength_cabcc 8 = .ok (.iconst 0, 1) := by decide +kernel
theorem dJ8_newLength_cabcc_9 : decode cJ8_newLength_cabcc 9 = .ok (.iload_n 3, 1) := by decide +kernel
theorem dJ8_newLength_cabcc_10 : decode cJ8_newLength_cabcc 10 = .ok (.if_icmp .ge 11, 3) := by decide +kernel
theorem dJ8_newLength_cabcc_13 : decode cJ8_newLength_cabcc 13 = .ok (.iload_n 3, 1) := by decide +kernel
theorem dJ8_newLength_cabcc_14 : decode cJ8_newLength_cabcc 14 = .ok (.ldc 200, 2) := by decide +kernel
theorem dJ8_newLength_cabcc_16 : decode cJ8_newLength_cabcc 16 = .ok (.if_icmp .gt 5, 3) := by decide +kernel
theorem dJ8_newLength_cabcc_19 : decode cJ8_newLength_cabcc 19 = .ok (.iload_n 3, 1) := by decide +kernel
theorem dJ8_newLength_cabcc_20 : decode cJ8_newLength_cabcc 20 = .ok (.ireturn, 1) := by decide +kernel
theorem dJ8_newLength_cabcc_21 : decode cJ8_newLength_cabcc 21 = .ok (.iload_n 0, 1) := by decide +kernel
theorem dJ8_newLength_cabcc_22 : decode cJ8_newLength_cabcc 22 = .ok (.iload_n 1, 1) := by decide +kernel
theorem dJ8_newLength_cabcc_23 : decode cJ8_newLength_cabcc 23 = .ok (.invokestatic 201, 3) := by decide +kernel
theorem dJ8_newLength_cabcc_26 : decode cJ8_newLength_cabcc 26 = .ok (.ireturn, 1) := by decide +kernel
/-- jdk/internal/util/ArraysSupport.newLength(III)I -/
def M_J8_newLength_cabcc : xM := (yJ8_newLength_cabcc, cJ8_newLength_cabcc, 4, (some FieldType.int), Cond.code yJ8_newLength_cabcc cJ8_newLength_cabcc 4 (some FieldType.int) :: xAll, { frames := 5, cells := 0, slots := 0, locals := 90 }, (0, 0), [])
theorem bw3 : (Jvm.Cond.static ({ cls := "java/lang/Math", name := "max", desc := "(II)I" } : Jvm.MethodName)) ∈ xAll := xin3 (List.mem_of_getElem? (i := 221) (by decide +kernel)) (by decide +kernel)
theorem bw4 : (Jvm.Cond.initialized "java/lang/Math") ∈ xAll := xin1 (List.mem_of_getElem? (i := 15) (by decide +kernel)) (by decide +kernel)
theorem bw5 : (Jvm.Cond.code ({ cls := "java/lang/Math", name := "max", desc := "(II)I" } : Jvm.MethodName) prog_27_method_65_code (2 : Nat) (Option.some Jvm.ClassFile.FieldType.int)) ∈ xAll := xin3 (List.mem_of_getElem? (i := 222) (by decide +kernel)) (by decide +kernel)
theorem bw6 : (Jvm.Cond.methodLink "jdk/internal/util/ArraysSupport" (194 : Nat) ({ cls := "java/lang/Math", name := "max", desc := "(II)I" } : Jvm.MethodName)) ∈ xAll := xin4 (List.mem_of_getElem? (i := 168) (by decide +kernel)) (by decide +kernel)
theorem p_J8_newLength_cabcc_194 : xMx M_J8_newLength_cabcc 194 := ⟨List.mem_cons_of_mem _ (bw6), List.mem_cons_of_mem _ (bw3), List.mem_cons_of_mem _ (bw4), List.mem_cons_of_mem _ (bw5), Nat.le_of_ble_eq_true rfl, Nat.le_of_ble_eq_true rfl, rfl, rfl⟩
theorem bw7 : (Jvm.Cond.constant "jdk/internal/util/ArraysSupport" (200 : Nat) (2147483639 : Int32)) ∈ xAll := xin4 (List.mem_of_getElem? (i := 169) (by decide +kernel)) (by decide +kernel)
theorem k_mal : Cond.constant (mY M_J8_newLength_cabcc).cls 200 2147483639 ∈ mW M_J8_newLength_cabcc := List.mem_cons_of_mem _ bw7
set_option maxRecDepth 100000 in
set_option maxHeartbeats 4000000 in
theorem ct_J8_newLength_cabcc {E : xE} {Po : xPo} {w : xW} {x y z : Nat} (h : x + y + z ≤ 1000) (h0 : 0 < z) (hp : Po (.inl (some (.int (nI (x + if y < z then z else y))))) w) : Ct M_J8_newLength_cabcc E [.int (nI x), .int (nI y), .int (nI z)] w Po := by
  refine Ct.of (ws2 := xAll) (L := [some (.int (nI x)), some (.int (nI y)), some (.int (nI z)), none]) (by decide +kernel) rfl rfl (List.forall_mem_cons.mpr ⟨rfl, List.forall_mem_cons.mpr ⟨rfl, List.forall_mem_cons.mpr ⟨rfl, fun _ h => absurd h List.not_mem_nil⟩⟩⟩) (Nat.le_of_ble_eq_true rfl) rfl ?_
  refine r_iload_n (q := 1) dJ8_newLength_cabcc_0 rfl rfl rfl ?_
  refine r_iload_n (q := 2) dJ8_newLength_cabcc_1 rfl rfl rfl ?_
  refine r_iload_n (q := 3) dJ8_newLength_cabcc_2 rfl rfl rfl ?_
  refine r_mmax (q := 6) dJ8_newLength_cabcc_3 p_J8_newLength_cabcc_194 (Nat.le_of_ble_eq_true rfl) rfl (Nat.le_of_ble_eq_true rfl) (Nat.le_of_ble_eq_true rfl) ?_
  rw [mx_nI (by omega) (by omega)]
  refine r_iadd (q := 7) dJ8_newLength_cabcc_6 rfl ?_
  rw [nI_a2]
  have hb9 : x + (if y < z then z else y) ≤ 1000 ∧ 0 < x + (if y < z then z else y) := by split <;> omega
  generalize x + (if y < z then z else y) = N9 at hb9 hp ⊢
  refine r_istore_n (q := 8) dJ8_newLength_cabcc_7 rfl (Nat.le_of_ble_eq_true rfl) (xone_of rfl) rfl ?_
  refine r_iconst (q := 9) (v := 0) dJ8_newLength_cabcc_8 rfl rfl ?_
  refine r_iload_n (q := 10) dJ8_newLength_cabcc_9 rfl rfl rfl ?_
  refine r_icmp_ge (q := 21) (q2 := 13) dJ8_newLength_cabcc_10 (by decide) rfl (fun h9 => absurd h9 (nI_nle (by omega) (by omega))) (fun _ => ?_)
  refine r_iload_n (q := 14) dJ8_newLength_cabcc_13 rfl rfl rfl ?_
  refine r_ldcI (q := 16) dJ8_newLength_cabcc_14 k_mal rfl ?_
  refine r_icmp_gt (q := 21) (q2 := 19) dJ8_newLength_cabcc_16 (by decide) rfl (fun h9 => absurd h9 (show ¬ (2147483639 : Int32) < nI _ from nI_nlt (a := 2147483639) (by omega) (by decide))) (fun _ => ?_)
  refine r_iload_n (q := 20) dJ8_newLength_cabcc_19 rfl rfl rfl ?_
  refine r_iret dJ8_newLength_cabcc_20 rfl (Nat.le_of_ble_eq_true rfl) (Nat.le_of_ble_eq_true rfl) ?_
  exact hp
theorem dJ5_newCapacity_0f7a4_0 : decode cJ5_newCapacity_0f7a4 0 = .ok (.aload_n 0, 1) := by decide +kernel
theorem dJ5_newCapacity_0f7a4_1 : decode cJ5_newCapacity_0f7a4 1 = .ok (.getfield 15, 3) := by decide +kernel
theorem dJ5_newCapacity_0f7a4_4 : decode cJ5_newCapacity_0f7a4 4 = .ok (.arraylength, 1) := by decide +kernel
theorem dJ5_newCapacity_0f7a4_5 : decode cJ5_newCapacity_0f7a4 5 = .ok (.istore_n 2, 1) := by decide +kernel
theorem dJ5_newCapacity_0f7a4_6 : decode cJ5_newCapacity_0f7a4 6 = .ok (.iload_n 1, 1) := by decide +kernel
theorem dJ5_newCapacity_0f7a4_7 : decode cJ5_newCapacity_0f7a4 7 = .ok (.aload_n 0, 1) := by decide +kernel
theorem dJ5_newCapacity_0f7a4_8 : decode cJ5_newCapacity_0f7a4 8 = .ok (.getfield 22, 3) := by decide +kernel
theorem dJ5_newCapacity_0f7a4_11 : decode cJ5_newCapacity_0f7a4 11 = .ok (.ishl, 1) := by decide +kernel
theorem dJ5_newCapacity_0f7a4_12 : decode cJ5_newCapacity_0f7a4 12 = .ok (.istore_n 3, 1) := by decide +kernel
theorem dJ5_newCapacity_0f7a4_13 : decode cJ5_newCapacity_0f7a4 13 = .ok (.iload_n 3, 1) := by decide +kernel
theorem dJ5_newCapacity_0f7a4_14 : decode cJ5_newCapacity_0f7a4 14 = .ok (.iload_n 2, 1) := by decide +kernel
theorem dJ5_newCapacity_0f7a4_15 : decode cJ5_newCapacity_0f7a4 15 = .ok (.isub, 1) := by decide +kernel
theorem dJ5_newCapacity_0f7a4_16 : decode cJ5_newCapacity_0f7a4 16 = .ok (.istore 4, 2) := by decide +kernel
theorem dJ5_newCapacity_0f7a4_18 : decode cJ5_newCapacity_0f7a4 18 = .ok (.iload_n 2, 1) := by decide +kernel
theorem dJ5_newCapacity_0f7a4_19 : decode cJ5_newCapacity_0f7a4 19 = .ok (.iload 4, 2) := by decide +kernel
theorem dJ5_newCapacity_0f7a4_21 : decode cJ5_newCapacity_0f7a4 21 = .ok (.iload_n 2, 1) := by decide +kernel
theorem dJ5_newCapacity_0f7a4_22 : decode cJ5_newCapacity_0f7a4 22 = .ok (.iconst 2, 1) := by decide +kernel
theorem dJ5_newCapacity_0f7a4_23 : decode cJ5_newCapacity_0f7a4 23 = .ok (.aload_n 0, 1) := by decide +kernel
theorem dJ5_newCapacity_0f7a4_24 : decode cJ5_newCapacity_0f7a4 24 = .ok (.getfield 22, 3) := by decide +kernel
theorem dJ5_newCapacity_0f7a4_27 : decode cJ5_newCapacity_0f7a4 27 = .ok (.ishl, 1) := by decide +kernel
theorem dJ5_newCapacity_0f7a4_28 : decode cJ5_newCapacity_0f7a4 28 = .ok (.iadd, 1) := by decide +kernel
theorem dJ5_newCapacity_0f7a4_29 : decode cJ5_newCapacity_0f7a4 29 = .ok (.invokestatic 114, 3) := by decide +kernel
theorem dJ5_newCapacity_0f7a4_32 : decode cJ5_newCapacity_0f7a4 32 = .ok (.istore 5, 2) := by decide +kernel
theorem dJ5_newCapacity_0f7a4_34 : decode cJ5_newCapacity_0f7a4 34 = .ok (.iload 5, 2) := by decide +kernel
theorem dJ5_newCapacity_0f7a4_36 : decode cJ5_newCapacity_0f7a4 36 = .ok (.ldc 39, 2) := by decide +kernel
theorem dJ5_newCapacity_0f7a4_38 : decode cJ5_newCapacity_0f7a4 38 = .ok (.if_icmp .ne 13, 3) := by decide +kernel
theorem dJ5_newCapacity_0f7a4_41 : decode cJ5_newCapacity_0f7a4 41 = .ok (.new 120, 3) := by decide +kernel
theorem dJ5_newCapacity_0f7a4_44 : decode cJ5_newCapacity_0f7a4 44 = .ok (.dup, 1) := by decide +kernel
theorem dJ5_newCapacity_0f7a4_45 : decode cJ5_newCapacity_0f7a4 45 = .ok (.ldc 122, 2) := by decide +kernel
theorem dJ5_newCapacity_0f7a4_47 : decode cJ5_newCapacity_0f7a4 47 = .ok (.invokespecial 124, 3) := by decide +kernel
theorem dJ5_newCapacity_0f7a4_50 : decode cJ5_newCapacity_0f7a4 50 = .ok (.athrow, 1) := by decide +kernel
theorem dJ5_newCapacity_0f7a4_51 : decode cJ5_newCapacity_0f7a4 51 = .ok (.iload 5, 2) := by decide +kernel
theorem dJ5_newCapacity_0f7a4_53 : decode cJ5_newCapacity_0f7a4 53 = .ok (.aload_n 0, 1) := by decide +kernel
theorem dJ5_newCapacity_0f7a4_54 : decode cJ5_newCapacity_0f7a4 54 = .ok (.getfield 22, 3) := by decide +kernel
theorem dJ5_newCapacity_0f7a4_57 : decode cJ5_newCapacity_0f7a4 57 = .ok (.ishr, 1) := by decide +kernel
theorem dJ5_newCapacity_0f7a4_58 : decode cJ5_newCapacity_0f7a4 58 = .ok (.ireturn, 1) := by decide +kernel
/-- java/lang/AbstractStringBuilder.newCapacity(I)I -/
def M_J5_newCapacity_0f7a4 : xM := (yJ5_newCapacity_0f7a4, cJ5_newCapacity_0f7a4, 6, (some FieldType.int), Cond.code yJ5_newCapacity_0f7a4 cJ5_newCapacity_0f7a4 6 (some FieldType.int) :: xAll, { frames := 6, cells := 0, slots := 0, locals := 113 }, (0, 0), [])
theorem bw8 : (Jvm.Cond.fieldLink "java/lang/AbstractStringBuilder" (15 : Nat) "java/lang/AbstractStringBuilder" "value" "[B") ∈ xAll := xin2 (List.mem_of_getElem? (i := 39) (by decide +kernel)) (by decide +kernel)
theorem f_J5_newCapacity_0f7a4_15 : xFl2 M_J5_newCapacity_0f7a4 15 1 0 (tyJ4 0) := ⟨RJ4, TJ4, 4, tyJ4, rfl, by decide, fun w h => List.mem_cons_of_mem _ (inJ4 w h), List.mem_cons_of_mem _ (bw8), tyJ4_ok, nmJ4, rfl, rfl⟩
theorem f_J5_newCapacity_0f7a4_22 : xFl2 M_J5_newCapacity_0f7a4 22 1 1 (tyJ4 1) := ⟨RJ4, TJ4, 4, tyJ4, rfl, by decide, fun w h => List.mem_cons_of_mem _ (inJ4 w h), List.mem_cons_of_mem _ (bw1), tyJ4_ok, nmJ4, rfl, rfl⟩
theorem bw9 : (Jvm.Cond.code ({ cls := "jdk/internal/util/ArraysSupport", name := "newLength", desc := "(III)I" } : Jvm.MethodName) prog_42_method_27_code (4 : Nat) (Option.some Jvm.ClassFile.FieldType.int)) ∈ xAll := xin4 (List.mem_of_getElem? (i := 167) (by decide +kernel)) (by decide +kernel)
theorem bw10 : (Jvm.Cond.initialized "jdk/internal/util/ArraysSupport") ∈ xAll := xin1 (List.mem_of_getElem? (i := 27) (by decide +kernel)) (by decide +kernel)
theorem bw11 : (Jvm.Cond.methodLink "java/lang/AbstractStringBuilder" (114 : Nat) ({ cls := "jdk/internal/util/ArraysSupport", name := "newLength", desc := "(III)I" } : Jvm.MethodName)) ∈ xAll := xin4 (List.mem_of_getElem? (i := 165) (by decide +kernel)) (by decide +kernel)
theorem bw12 : (Jvm.Cond.static ({ cls := "jdk/internal/util/ArraysSupport", name := "newLength", desc := "(III)I" } : Jvm.MethodName)) ∈ xAll := xin4 (List.mem_of_getElem? (i := 166) (by decide +kernel)) (by decide +kernel)
theorem s_J5_newCapacity_0f7a4_114 : xSs M_J5_newCapacity_0f7a4 M_J8_newLength_cabcc 114 3 := fun s args hts => ⟨callB_of 3 hts (xGood bw9) rfl rfl rfl (hts _ (List.mem_cons_of_mem _ (bw10))) (hts _ (List.mem_cons_of_mem _ (bw11))) (by decide +kernel) ⟨Nat.le_of_ble_eq_true rfl, Nat.le_of_ble_eq_true rfl⟩, (hts _ (List.mem_cons_of_mem _ (bw12)))⟩
theorem bw13 : (Jvm.Cond.constant "java/lang/AbstractStringBuilder" (39 : Nat) (2147483647 : Int32)) ∈ xAll := xin4 (List.mem_of_getElem? (i := 173) (by decide +kernel)) (by decide +kernel)
theorem k_imx : Cond.constant (mY M_J5_newCapacity_0f7a4).cls 39 2147483647 ∈ mW M_J5_newCapacity_0f7a4 := List.mem_cons_of_mem _ bw13
set_option maxRecDepth 100000 in
set_option maxHeartbeats 4000000 in
theorem ct_J5_newCapacity_0f7a4 {E : xE} {Po : xPo} {w : xW} {b : Nat} {va cap : Nat} {ml ct : Int32} {f : Nat → Int32} (H : HB E w b (va, cap, ml, ct, f)) {z : Nat} (h0 : cap < z) (hz : z ≤ 125) (hp : Po (.inl (some (.int (nI (capN z cap))))) w) : Ct M_J5_newCapacity_0f7a4 E [.ref b, .int (nI z)] w Po := by
  refine Ct.of (ws2 := xAll) (L := [some (.ref b), some (.int (nI z)), none, none, none, none]) (by decide +kernel) rfl rfl (List.forall_mem_cons.mpr ⟨rfl, List.forall_mem_cons.mpr ⟨rfl, fun _ h => absurd h List.not_mem_nil⟩⟩) (Nat.le_of_ble_eq_true rfl) rfl ?_
  refine r_aload_n (q := 1) dJ5_newCapacity_0f7a4_0 rfl rfl rfl ?_
  refine r_getfS (q := 4) dJ5_newCapacity_0f7a4_1 f_J5_newCapacity_0f7a4_15 H.1 rfl rfl ?_
  refine r_alen (q := 5) (t0 := 7) dJ5_newCapacity_0f7a4_4 rfl H.2.1 rfl ?_
  show WF _ E Po _ _ _ (.int (nI cap) :: _) _ _ _
  refine r_istore_n (q := 6) dJ5_newCapacity_0f7a4_5 rfl (Nat.le_of_ble_eq_true rfl) (xone_of rfl) rfl ?_
  refine r_iload_n (q := 7) dJ5_newCapacity_0f7a4_6 rfl rfl rfl ?_
  refine r_aload_n (q := 8) dJ5_newCapacity_0f7a4_7 rfl rfl rfl ?_
  refine r_getfS (q := 11) dJ5_newCapacity_0f7a4_8 f_J5_newCapacity_0f7a4_22 H.1 rfl rfl ?_
  refine r_ishl (q := 12) dJ5_newCapacity_0f7a4_11 rfl ?_
  rw [sb_shl0]
  refine r_istore_n (q := 13) dJ5_newCapacity_0f7a4_12 rfl (Nat.le_of_ble_eq_true rfl) (xone_of rfl) rfl ?_
  refine r_iload_n (q := 14) dJ5_newCapacity_0f7a4_13 rfl rfl rfl ?_
  refine r_iload_n (q := 15) dJ5_newCapacity_0f7a4_14 rfl rfl rfl ?_
  refine r_isub (q := 16) dJ5_newCapacity_0f7a4_15 rfl ?_
  rw [pk_sub (Nat.le_of_lt h0)]
  refine r_istore (q := 18) dJ5_newCapacity_0f7a4_16 (Nat.le_of_ble_eq_true rfl) (xone_of rfl) rfl ?_
  refine r_iload_n (q := 19) dJ5_newCapacity_0f7a4_18 rfl rfl rfl ?_
  refine r_iload (q := 21) dJ5_newCapacity_0f7a4_19 rfl rfl ?_
  refine r_iload_n (q := 22) dJ5_newCapacity_0f7a4_21 rfl rfl rfl ?_
  refine r_iconst (q := 23) (v := 2) dJ5_newCapacity_0f7a4_22 rfl rfl ?_
  refine r_aload_n (q := 24) dJ5_newCapacity_0f7a4_23 rfl rfl rfl ?_
  refine r_getfS (q := 27) dJ5_newCapacity_0f7a4_24 f_J5_newCapacity_0f7a4_22 H.1 rfl rfl ?_
  refine r_ishl (q := 28) dJ5_newCapacity_0f7a4_27 rfl ?_
  rw [sb_shl0]
  refine r_iadd (q := 29) dJ5_newCapacity_0f7a4_28 rfl ?_
  rw [show nI cap + (2 : Int32) = nI (cap + 2) from nI_a2 cap 2]
  refine r_callS (q := 32) (As := [_, _, _]) dJ5_newCapacity_0f7a4_29 s_J5_newCapacity_0f7a4_114 rfl rfl (Nat.le_of_ble_eq_true rfl) rfl rfl rfl (Nat.le_of_ble_eq_true rfl) (Nat.le_of_ble_eq_true rfl) ⟨(Nat.le_of_ble_eq_true rfl), (Nat.le_of_ble_eq_true rfl)⟩ rfl ?_
  refine ct_J8_newLength_cabcc (x := cap) (y := z - cap) (z := cap + 2) (by omega) (by omega) ?_
  show WF _ E Po _ _ _ _ _ _ _
  have hb8 : capN z cap ≤ 1000 := by unfold capN; split <;> omega
  change WF _ E Po _ _ _ (.int (nI (capN z cap)) :: _) _ _ _
  refine r_istore (q := 34) dJ5_newCapacity_0f7a4_32 (Nat.le_of_ble_eq_true rfl) (xone_of rfl) rfl ?_
  refine r_iload (q := 36) dJ5_newCapacity_0f7a4_34 rfl rfl ?_
  refine r_ldcI (q := 38) dJ5_newCapacity_0f7a4_36 k_imx rfl ?_
  refine r_icmp_ne (q := 51) (q2 := 41) dJ5_newCapacity_0f7a4_38 (by decide) rfl (fun _ => ?_) (fun h9 => absurd h9 (show ¬ nI (capN z cap) = nI 2147483647 from nI_ne (by omega) (by omega) (by decide)))
  refine r_iload (q := 53) dJ5_newCapacity_0f7a4_51 rfl rfl ?_
  refine r_aload_n (q := 54) dJ5_newCapacity_0f7a4_53 rfl rfl rfl ?_
  refine r_getfS (q := 57) dJ5_newCapacity_0f7a4_54 f_J5_newCapacity_0f7a4_22 H.1 rfl rfl ?_
  refine r_ishr (q := 58) dJ5_newCapacity_0f7a4_57 rfl ?_
  rw [sb_shr0]
  refine r_iret dJ5_newCapacity_0f7a4_58 rfl (Nat.le_of_ble_eq_true rfl) (Nat.le_of_ble_eq_true rfl) ?_
  exact hp
theorem dJ7_copyOf_9075b_0 : decode cJ7_copyOf_9075b 0 = .ok (.iload_n 1, 1) := by decide +kernel
theorem dJ7_copyOf_9075b_1 : decode cJ7_copyOf_9075b 1 = .ok (.aload_n 0, 1) := by decide +kernel
theorem dJ7_copyOf_9075b_2 : decode cJ7_copyOf_9075b 2 = .ok (.arraylength, 1) := by decide +kernel
theorem dJ7_copyOf_9075b_3 : decode cJ7_copyOf_9075b 3 = .ok (.if_icmp .ne 11, 3) := by decide +kernel
theorem dJ7_copyOf_9075b_6 : decode cJ7_copyOf_9075b 6 = .ok (.aload_n 0, 1) := by decide +kernel
theorem dJ7_copyOf_9075b_7 : decode cJ7_copyOf_9075b 7 = .ok (.invokevirtual 310, 3) := by decide +kernel
theorem dJ7_copyOf_9075b_10 : decode cJ7_copyOf_9075b 10 = .ok (.checkcast 311, 3) := by decide +kernel
theorem dJ7_copyOf_9075b_13 : decode cJ7_copyOf_9075b 13 = .ok (.areturn, 1) := by decide +kernel
theorem dJ7_copyOf_9075b_14 : decode cJ7_copyOf_9075b 14 = .ok (.iload_n 1, 1) := by decide +kernel
theorem dJ7_copyOf_9075b_15 : decode cJ7_copyOf_9075b 15 = .ok (.newarray .byte, 2) := by decide +kernel
theorem dJ7_copyOf_9075b_17 : decode cJ7_copyOf_9075b 17 = .ok (.astore_n 2, 1) := by decide +kernel
theorem dJ7_copyOf_9075b_18 : decode cJ7_copyOf_9075b 18 = .ok (.aload_n 0, 1) := by decide +kernel
theorem dJ7_copyOf_9075b_19 : decode cJ7_copyOf_9075b 19 = .ok (.iconst 0, 1) := by decide +kernel
theorem dJ7_copyOf_9075b_20 : decode cJ7_copyOf_9075b 20 = .ok (.aload_n 2, 1) := by decide +kernel
theorem dJ7_copyOf_9075b_21 : decode cJ7_copyOf_9075b 21 = .ok (.iconst 0, 1) := by decide +kernel
theorem dJ7_copyOf_9075b_22 : decode cJ7_copyOf_9075b 22 = .ok (.aload_n 0, 1) := by decide +kernel
theorem dJ7_copyOf_9075b_23 : decode cJ7_copyOf_9075b 23 = .ok (.arraylength, 1) := by decide +kernel
theorem dJ7_copyOf_9075b_24 : decode cJ7_copyOf_9075b 24 = .ok (.iload_n 1, 1) := by decide +kernel
theorem dJ7_copyOf_9075b_25 : decode cJ7_copyOf_9075b 25 = .ok (.invokestatic 304, 3) := by decide +kernel
theorem dJ7_copyOf_9075b_28 : decode cJ7_copyOf_9075b 28 = .ok (.invokestatic 150, 3) := by decide +kernel
theorem dJ7_copyOf_9075b_31 : decode cJ7_copyOf_9075b 31 = .ok (.aload_n 2, 1) := by decide +kernel
theorem dJ7_copyOf_9075b_32 : decode cJ7_copyOf_9075b 32 = .ok (.areturn, 1) := by decide +kernel
/-- java/util/Arrays.copyOf([BI)[B -/
def M_J7_copyOf_9075b : xM := (yJ7_copyOf_9075b, cJ7_copyOf_9075b, 3, (some (FieldType.array FieldType.byte)), Cond.code yJ7_copyOf_9075b cJ7_copyOf_9075b 3 (some (FieldType.array FieldType.byte)) :: xAll, { frames := 5, cells := 1, slots := 122, locals := 90 }, (1, 122), [])
theorem bw14 : (Jvm.Cond.static ({ cls := "java/lang/Math", name := "min", desc := "(II)I" } : Jvm.MethodName)) ∈ xAll := xin2 (List.mem_of_getElem? (i := 239) (by decide +kernel)) (by decide +kernel)
theorem bw15 : (Jvm.Cond.code ({ cls := "java/lang/Math", name := "min", desc := "(II)I" } : Jvm.MethodName) prog_27_method_69_code (2 : Nat) (Option.some Jvm.ClassFile.FieldType.int)) ∈ xAll := xin3 (List.mem_of_getElem? (i := 0) (by decide +kernel)) (by decide +kernel)
theorem bw16 : (Jvm.Cond.methodLink "java/util/Arrays" (304 : Nat) ({ cls := "java/lang/Math", name := "min", desc := "(II)I" } : Jvm.MethodName)) ∈ xAll := xin4 (List.mem_of_getElem? (i := 184) (by decide +kernel)) (by decide +kernel)
theorem p_J7_copyOf_9075b_304 : xMm M_J7_copyOf_9075b 304 := ⟨List.mem_cons_of_mem _ (bw16), List.mem_cons_of_mem _ (bw14), List.mem_cons_of_mem _ (bw4), List.mem_cons_of_mem _ (bw15), Nat.le_of_ble_eq_true rfl, Nat.le_of_ble_eq_true rfl, rfl, rfl⟩
theorem bw17 : (Jvm.Cond.methodLink "java/util/Arrays" (150 : Nat) ({ cls := "java/lang/System", name := "arraycopy", desc := "(Ljava/lang/Object;ILjava/lang/Object;II)V" } : Jvm.MethodName)) ∈ xAll := xin4 (List.mem_of_getElem? (i := 185) (by decide +kernel)) (by decide +kernel)
theorem a_J7_copyOf_9075b_150 : xAc M_J7_copyOf_9075b 150 := ⟨List.mem_cons_of_mem _ (bw17), List.mem_cons_of_mem _ (v171), List.mem_cons_of_mem _ (v172), List.mem_cons_of_mem _ (v173), Nat.le_of_ble_eq_true rfl, Nat.le_of_ble_eq_true rfl⟩
set_option maxRecDepth 100000 in
set_option maxHeartbeats 4000000 in
theorem ct_J7_copyOf_9075b {E : xE} {Po : xPo} {w : xW} {va m z : Nat} {f : Nat → Int32} (hw : w.1 va = some (.inl (E.1.2 7, m, .inl f))) (hva : va < w.2) (h : m < z) (hz : z ≤ 122) (hfit : sb_Fit f) (hp : Po (.inl (some (.ref w.2))) (xadd w (.inl (E.1.2 7, z, .inl (va_cpy f (fun _ => 0) 0 0 m))))) : Ct M_J7_copyOf_9075b E [.ref va, .int (nI z)] w Po := by
  refine Ct.of (ws2 := xAll) (L := [some (.ref va), some (.int (nI z)), none]) (by decide +kernel) rfl rfl (List.forall_mem_cons.mpr ⟨rfl, List.forall_mem_cons.mpr ⟨rfl, fun _ h => absurd h List.not_mem_nil⟩⟩) (Nat.le_of_ble_eq_true rfl) rfl ?_
  refine r_iload_n (q := 1) dJ7_copyOf_9075b_0 rfl rfl rfl ?_
  refine r_aload_n (q := 2) dJ7_copyOf_9075b_1 rfl rfl rfl ?_
  refine r_alen (q := 3) (t0 := 7) dJ7_copyOf_9075b_2 rfl hw rfl ?_
  show WF _ E Po _ _ _ (.int (nI m) :: _) _ _ _
  refine r_icmp_ne (q := 14) (q2 := 6) dJ7_copyOf_9075b_3 (by decide) rfl (fun _ => ?_) (fun h9 => absurd h9 (nI_ne (by omega) (by omega) (by omega)))
  refine r_iload_n (q := 15) dJ7_copyOf_9075b_14 rfl rfl rfl ?_
  refine r_newarray (q := 17) (ty := .byte) (t0 := 7) (N := z) (a0 := (z, .inl (fun _ => 0))) dJ7_copyOf_9075b_15 rfl (List.mem_cons_of_mem _ aw_byte) rfl (fun _ h => h) rfl (nI_pos (by omega)) (nI_cl (by omega)) (by show z * 1 ≤ 536870912; omega) (Nat.le_of_ble_eq_true rfl) (by show 0 + z ≤ 122; omega) rfl ?_
  refine r_astore_n (q := 18) dJ7_copyOf_9075b_17 rfl (Nat.le_of_ble_eq_true rfl) (xone_of rfl) rfl ?_
  refine r_aload_n (q := 19) dJ7_copyOf_9075b_18 rfl rfl rfl ?_
  refine r_iconst (q := 20) (v := 0) dJ7_copyOf_9075b_19 rfl rfl ?_
  refine r_aload_n (q := 21) dJ7_copyOf_9075b_20 rfl rfl rfl ?_
  refine r_iconst (q := 22) (v := 0) dJ7_copyOf_9075b_21 rfl rfl ?_
  refine r_aload_n (q := 23) dJ7_copyOf_9075b_22 rfl rfl rfl ?_
  refine r_alen (q := 24) (t0 := 7) dJ7_copyOf_9075b_23 rfl ((xadd_o (Nat.ne_of_lt hva)).trans hw) rfl ?_
  show WF _ E Po _ _ _ (.int (nI m) :: _) _ _ _
  refine r_iload_n (q := 25) dJ7_copyOf_9075b_24 rfl rfl rfl ?_
  refine r_mmin (q := 28) dJ7_copyOf_9075b_25 p_J7_copyOf_9075b_304 (Nat.le_of_ble_eq_true rfl) rfl (Nat.le_of_ble_eq_true rfl) (by show 0 + z ≤ 122; omega) ?_
  rw [mn_nI (Nat.le_of_lt h) (by omega)]
  refine r_copyb (q := 31) dJ7_copyOf_9075b_28 a_J7_copyOf_9075b_150 ((xadd_o (Nat.ne_of_lt hva)).trans hw) xadd_s hfit (sa := 0) (da := 0) (na := m) rfl rfl rfl (by omega) (by omega) ⟨by omega, by omega⟩ (Nat.le_of_ble_eq_true rfl) rfl ?_
  rw [xset_xadd]
  refine r_aload_n (q := 32) dJ7_copyOf_9075b_31 rfl rfl rfl ?_
  exact r_aretA dJ7_copyOf_9075b_32 rfl (Or.inr ⟨_, rfl⟩) (Nat.le_of_ble_eq_true rfl) (by show 0 + z ≤ 122; omega) hp
theorem dJ5_ensureCapacityInternal_d00df_0 : decode cJ5_ensureCapacityInternal_d00df 0 = .ok (.aload_n 0, 1) := by decide +kernel
theorem dJ5_ensureCapacityInternal_d00df_1 : decode cJ5_ensureCapacityInternal_d00df 1 = .ok (.getfield 15, 3) := by decide +kernel
theorem dJ5_ensureCapacityInternal_d00df_4 : decode cJ5_ensureCapacityInternal_d00df 4 = .ok (.arraylength, 1) := by decide +kernel
theorem dJ5_ensureCapacityInternal_d00df_5 : decode cJ5_ensureCapacityInternal_d00df 5 = .ok (.aload_n 0, 1) := by decide +kernel
theorem dJ5_ensureCapacityInternal_d00df_6 : decode cJ5_ensureCapacityInternal_d00df 6 = .ok (.getfield 22, 3) := by decide +kernel
theorem dJ5_ensureCapacityInternal_d00df_9 : decode cJ5_ensureCapacityInternal_d00df 9 = .ok (.ishr, 1) := by decide +kernel
theorem dJ5_ensureCapacityInternal_d00df_10 : decode cJ5_ensureCapacityInternal_d00df 10 = .ok (.istore_n 2, 1) := by decide +kernel
theorem dJ5_ensureCapacityInternal_d00df_11 : decode cJ5_ensureCapacityInternal_d00df 11 = .ok (.iload_n 1, 1) := by decide +kernel
theorem dJ5_ensureCapacityInternal_d00df_12 : decode cJ5_ensureCapacityInternal_d00df 12 = .ok (.iload_n 2, 1) := by decide +kernel
theorem dJ5_ensureCapacityInternal_d00df_13 : decode cJ5_ensureCapacityInternal_d00df 13 = .ok (.isub, 1) := by decide +kernel
theorem dJ5_ensureCapacityInternal_d00df_14 : decode cJ5_ensureCapacityInternal_d00df 14 = .ok (.ifCond .le 24, 3) := by decide +kernel
theorem dJ5_ensureCapacityInternal_d00df_17 : decode cJ5_ensureCapacityInternal_d00df 17 = .ok (.aload_n 0, 1) := by decide +kernel
theorem dJ5_ensureCapacityInternal_d00df_18 : decode cJ5_ensureCapacityInternal_d00df 18 = .ok (.aload_n 0, 1) := by decide +kernel
theorem dJ5_ensureCapacityInternal_d00df_19 : decode cJ5_ensureCapacityInternal_d00df 19 = .ok (.getfield 15, 3) := by decide +kernel
theorem dJ5_ensureCapacityInternal_d00df_22 : decode cJ5_ensureCapacityInternal_d00df 22 = .ok (.aload_n 0, 1) := by decide +kernel
theorem dJ5_ensureCapacityInternal_d00df_23 : decode cJ5_ensureCapacityInternal_d00df 23 = .ok (.iload_n 1, 1) := by decide +kernel
theorem dJ5_ensureCapacityInternal_d00df_24 : decode cJ5_ensureCapacityInternal_d00df 24 = .ok (.invokevirtual 104, 3) := by decide +kernel
theorem dJ5_ensureCapacityInternal_d00df_27 : decode cJ5_ensureCapacityInternal_d00df 27 = .ok (.aload_n 0, 1) := by decide +kernel
theorem dJ5_ensureCapacityInternal_d00df_28 : decode cJ5_ensureCapacityInternal_d00df 28 = .ok (.getfield 22, 3) := by decide +kernel
theorem dJ5_ensureCapacityInternal_d00df_31 : decode cJ5_ensureCapacityInternal_d00df 31 = .ok (.ishl, 1) := by decide +kernel
theorem dJ5_ensureCapacityInternal_d00df_32 : decode cJ5_ensureCapacityInternal_d00df 32 = .ok (.invokestatic 108, 3) := by decide +kernel
theorem dJ5_ensureCapacityInternal_d00df_35 : decode cJ5_ensureCapacityInternal_d00df 35 = .ok (.putfield 15, 3) := by decide +kernel
theorem dJ5_ensureCapacityInternal_d00df_38 : decode cJ5_ensureCapacityInternal_d00df 38 = .ok (.return_, 1) := by decide +kernel
/-- java/lang/AbstractStringBuilder.ensureCapacityInternal(I)V -/
def M_J5_ensureCapacityInternal_d00df : xM := (yJ5_ensureCapacityInternal_d00df, cJ5_ensureCapacityInternal_d00df, 3, none, Cond.code yJ5_ensureCapacityInternal_d00df cJ5_ensureCapacityInternal_d00df 3 none :: (xPv ++ xAll), { frames := 7, cells := 1, slots := 122, locals := 138 }, (1, 122), [])
theorem f_J5_ensureCapacityInternal_d00df_15 : xFl2 M_J5_ensureCapacityInternal_d00df 15 1 0 (tyJ4 0) := ⟨RJ4, TJ4, 4, tyJ4, rfl, by decide, fun w h => mP (inJ4 w h), mP (bw8), tyJ4_ok, nmJ4, rfl, rfl⟩
theorem f_J5_ensureCapacityInternal_d00df_22 : xFl2 M_J5_ensureCapacityInternal_d00df 22 1 1 (tyJ4 1) := ⟨RJ4, TJ4, 4, tyJ4, rfl, by decide, fun w h => mP (inJ4 w h), mP (bw1), tyJ4_ok, nmJ4, rfl, rfl⟩
theorem bw18 : (Jvm.Cond.code ({ cls := "java/lang/AbstractStringBuilder", name := "newCapacity", desc := "(I)I" } : Jvm.MethodName) prog_14_method_10_code (6 : Nat) (Option.some Jvm.ClassFile.FieldType.int)) ∈ xAll := xin4 (List.mem_of_getElem? (i := 164) (by decide +kernel)) (by decide +kernel)
theorem bw19 : (Jvm.Cond.initialized "java/lang/AbstractStringBuilder") ∈ xAll := xin1 (List.mem_of_getElem? (i := 11) (by decide +kernel)) (by decide +kernel)
theorem bw20 : (Jvm.Cond.methodLink "java/lang/AbstractStringBuilder" (104 : Nat) ({ cls := "java/lang/AbstractStringBuilder", name := "newCapacity", desc := "(I)I" } : Jvm.MethodName)) ∈ xAll := xin4 (List.mem_of_getElem? (i := 161) (by decide +kernel)) (by decide +kernel)
theorem bw21 : (Jvm.Cond.instanceMethod ({ cls := "java/lang/AbstractStringBuilder", name := "newCapacity", desc := "(I)I" } : Jvm.MethodName)) ∈ xAll := xin4 (List.mem_of_getElem? (i := 163) (by decide +kernel)) (by decide +kernel)
theorem bw22 : (Jvm.Cond.selects "java/lang/StringBuilder" ({ cls := "java/lang/AbstractStringBuilder", name := "isLatin1", desc := "()Z" } : Jvm.MethodName) ({ cls := "java/lang/AbstractStringBuilder", name := "isLatin1", desc := "()Z" } : Jvm.MethodName)) ∈ xAll := xin4 (List.mem_of_getElem? (i := 191) (by decide +kernel)) (by decide +kernel)
theorem s_J5_ensureCapacityInternal_d00df_104 : xSpriv M_J5_ensureCapacityInternal_d00df M_J5_newCapacity_0f7a4 104 1 := fun s args hts => ⟨callB_of 1 (htsP hts) (xGood bw18) rfl rfl rfl (hts _ (mP (bw19))) (hts _ (mP (bw20))) (by decide +kernel) ⟨Nat.le_of_ble_eq_true rfl, Nat.le_of_ble_eq_true rfl⟩, (hts _ (mP (bw21))), htsQ hts _ (List.mem_of_getElem? (i := 1) rfl), "java/lang/StringBuilder", ({ cls := "java/lang/AbstractStringBuilder", name := "isLatin1", desc := "()Z" } : Jvm.MethodName), (hts _ (mP (bw22))), rfl⟩
theorem bw23 : (Jvm.Cond.code ({ cls := "java/util/Arrays", name := "copyOf", desc := "([BI)[B" } : Jvm.MethodName) prog_40_method_121_code (3 : Nat) (Option.some (Jvm.ClassFile.FieldType.array Jvm.ClassFile.FieldType.byte))) ∈ xAll := xin4 (List.mem_of_getElem? (i := 176) (by decide +kernel)) (by decide +kernel)
theorem bw24 : (Jvm.Cond.initialized "java/util/Arrays") ∈ xAll := xin1 (List.mem_of_getElem? (i := 28) (by decide +kernel)) (by decide +kernel)
theorem bw25 : (Jvm.Cond.methodLink "java/lang/AbstractStringBuilder" (108 : Nat) ({ cls := "java/util/Arrays", name := "copyOf", desc := "([BI)[B" } : Jvm.MethodName)) ∈ xAll := xin4 (List.mem_of_getElem? (i := 174) (by decide +kernel)) (by decide +kernel)
theorem bw26 : (Jvm.Cond.static ({ cls := "java/util/Arrays", name := "copyOf", desc := "([BI)[B" } : Jvm.MethodName)) ∈ xAll := xin4 (List.mem_of_getElem? (i := 175) (by decide +kernel)) (by decide +kernel)
theorem s_J5_ensureCapacityInternal_d00df_108 : xSs M_J5_ensureCapacityInternal_d00df M_J7_copyOf_9075b 108 2 := fun s args hts => ⟨callB_of 2 (htsP hts) (xGood bw23) rfl rfl rfl (hts _ (mP (bw24))) (hts _ (mP (bw25))) (by decide +kernel) ⟨Nat.le_of_ble_eq_true rfl, Nat.le_of_ble_eq_true rfl⟩, (hts _ (mP (bw26)))⟩
set_option maxRecDepth 100000 in
set_option maxHeartbeats 4000000 in
theorem ct_J5_ensureCapacityInternal_d00df {E : xE} {Po : xPo} {w : xW} {b : Nat} {va cap : Nat} {ml ct : Int32} {f : Nat → Int32} (H : HB E w b (va, cap, ml, ct, f)) {l : List Int32} {z : Nat} (hL : hasL (va, cap, ml, ct, f) l) (hz : z ≤ 60) (hp : ∀ (u : xW) (B2 : xBd), HB E u b B2 → hasL B2 l → FB w u b (va, cap, ml, ct, f) B2 → z ≤ B2.2.1 → Po (.inl none) u) : Ct M_J5_ensureCapacityInternal_d00df E [.ref b, .int (nI z)] w Po := by
  refine Ct.of (ws2 := xPv ++ xAll) (L := [some (.ref b), some (.int (nI z)), none]) (by decide +kernel) rfl rfl (List.forall_mem_cons.mpr ⟨rfl, List.forall_mem_cons.mpr ⟨rfl, fun _ h => absurd h List.not_mem_nil⟩⟩) (Nat.le_of_ble_eq_true rfl) rfl ?_
  refine r_aload_n (q := 1) dJ5_ensureCapacityInternal_d00df_0 rfl rfl rfl ?_
  refine r_getfS (q := 4) dJ5_ensureCapacityInternal_d00df_1 f_J5_ensureCapacityInternal_d00df_15 H.1 rfl rfl ?_
  refine r_alen (q := 5) (t0 := 7) dJ5_ensureCapacityInternal_d00df_4 rfl H.2.1 rfl ?_
  show WF _ E Po _ _ _ (.int (nI cap) :: _) _ _ _
  refine r_aload_n (q := 6) dJ5_ensureCapacityInternal_d00df_5 rfl rfl rfl ?_
  refine r_getfS (q := 9) dJ5_ensureCapacityInternal_d00df_6 f_J5_ensureCapacityInternal_d00df_22 H.1 rfl rfl ?_
  refine r_ishr (q := 10) dJ5_ensureCapacityInternal_d00df_9 rfl ?_
  rw [sb_shr0]
  refine r_istore_n (q := 11) dJ5_ensureCapacityInternal_d00df_10 rfl (Nat.le_of_ble_eq_true rfl) (xone_of rfl) rfl ?_
  refine r_iload_n (q := 12) dJ5_ensureCapacityInternal_d00df_11 rfl rfl rfl ?_
  refine r_iload_n (q := 13) dJ5_ensureCapacityInternal_d00df_12 rfl rfl rfl ?_
  have hc125 : cap ≤ 125 := hL.2.2.1.2
  have hc16 : cap = 16 ∨ 34 ≤ cap := hL.2.2.1.1
  refine r_isub (q := 14) dJ5_ensureCapacityInternal_d00df_13 rfl ?_
  refine r_if_le (q := 38) (q2 := 17) dJ5_ensureCapacityInternal_d00df_14 (by decide) rfl (fun h14 => ?_) (fun h14 => ?_)
  · have hzc := (sub_le0 (by omega) (by omega)).mp h14
    first
      | exact r_vret dJ5_ensureCapacityInternal_d00df_38 rfl (Nat.le_of_ble_eq_true rfl) (Nat.le_of_ble_eq_true rfl) (hp w _ H hL FB.id hzc)
      | refine r_vret dJ5_ensureCapacityInternal_d00df_38 rfl (Nat.le_of_ble_eq_true rfl) (Nat.le_of_ble_eq_true rfl) ?_
        refine hp _ (w.2, capN z cap, ml, ct, va_cpy f (fun _ => 0) 0 0 cap) ⟨xset_s, (xset_o (Ne.symm hbw)).trans xadd_s, ?_, Nat.lt_succ_self _⟩ ?_ ⟨Nat.le_succ _, fun a ha hb hl => (xset_o ha).trans (xadd_o (Nat.ne_of_lt hl)), Or.inr (Nat.le_refl _)⟩ hcn.2.1
        · have h1 := H.2.2.1; have h2 := H.2.2.2; dsimp only at h1 h2 ⊢; omega
        · obtain ⟨a1, a2, a3, a4, a5, a6⟩ := hL
          dsimp only at a2
          exact ⟨a1, by show _ ≤ capN z cap; omega, ⟨Or.inr hc34, by show capN z cap ≤ 125; omega⟩, fun j hj => (show va_cpy f (fun _ => 0) 0 0 cap j = f j from sb_cpy0 (by omega)).trans (a4 j hj), a5, sb_fitC a6 sb_fit0⟩
  · have hzc : cap < z := Nat.not_le.mp (fun q => h14 ((sub_le0 (by omega) (by omega)).mpr q))
    refine r_aload_n (q := 18) dJ5_ensureCapacityInternal_d00df_17 rfl rfl rfl ?_
    refine r_aload_n (q := 19) dJ5_ensureCapacityInternal_d00df_18 rfl rfl rfl ?_
    refine r_getfS (q := 22) dJ5_ensureCapacityInternal_d00df_19 f_J5_ensureCapacityInternal_d00df_15 H.1 rfl rfl ?_
    refine r_aload_n (q := 23) dJ5_ensureCapacityInternal_d00df_22 rfl rfl rfl ?_
    refine r_iload_n (q := 24) dJ5_ensureCapacityInternal_d00df_23 rfl rfl rfl ?_
    refine r_callP (q := 27) (ci := 1) (As := [_]) dJ5_ensureCapacityInternal_d00df_24 s_J5_ensureCapacityInternal_d00df_104 H.1 rfl rfl (Nat.le_of_ble_eq_true rfl) rfl rfl rfl (Nat.le_of_ble_eq_true rfl) (Nat.le_of_ble_eq_true rfl) ⟨(Nat.le_of_ble_eq_true rfl), (Nat.le_of_ble_eq_true rfl)⟩ rfl ?_
    refine ct_J5_newCapacity_0f7a4 H hzc (by omega) ?_
    show WF _ E Po _ _ _ _ _ _ _
    have hcn : cap < capN z cap ∧ z ≤ capN z cap ∧ capN z cap ≤ 122 := by unfold capN; refine ⟨?_, ?_, ?_⟩ <;> split <;> omega
    have hc34 : 34 ≤ capN z cap := by unfold capN; split <;> omega
    refine r_aload_n (q := 28) dJ5_ensureCapacityInternal_d00df_27 rfl rfl rfl ?_
    refine r_getfS (q := 31) dJ5_ensureCapacityInternal_d00df_28 f_J5_ensureCapacityInternal_d00df_22 H.1 rfl rfl ?_
    refine r_ishl (q := 32) dJ5_ensureCapacityInternal_d00df_31 rfl ?_
    rw [sb_shl0]
    refine r_callS (q := 35) (As := [_, _]) dJ5_ensureCapacityInternal_d00df_32 s_J5_ensureCapacityInternal_d00df_108 rfl rfl (Nat.le_of_ble_eq_true rfl) rfl rfl rfl (Nat.le_of_ble_eq_true rfl) (Nat.le_of_ble_eq_true rfl) ⟨(Nat.le_of_ble_eq_true rfl), (Nat.le_of_ble_eq_true rfl)⟩ rfl ?_
    refine ct_J7_copyOf_9075b H.2.1 H.2.2.2 hcn.1 hcn.2.2 hL.2.2.2.2.2 ?_
    show WF _ E Po _ _ _ _ _ _ _
    have hbw : b ≠ w.2 := by have h1 := H.2.2.1; have h2 := H.2.2.2; dsimp only at h1 h2; omega
    refine r_putfS (q := 38) dJ5_ensureCapacityInternal_d00df_35 f_J5_ensureCapacityInternal_d00df_15 ((xadd_o hbw).trans H.1) rfl rfl (Nat.le_of_ble_eq_true rfl) rfl ?_
    first
      | exact r_vret dJ5_ensureCapacityInternal_d00df_38 rfl (Nat.le_of_ble_eq_true rfl) (Nat.le_of_ble_eq_true rfl) (hp w _ H hL FB.id hzc)
      | refine r_vret dJ5_ensureCapacityInternal_d00df_38 rfl (Nat.le_of_ble_eq_true rfl) (Nat.le_of_ble_eq_true rfl) ?_
        refine hp _ (w.2, capN z cap, ml, ct, va_cpy f (fun _ => 0) 0 0 cap) ⟨xset_s, (xset_o (Ne.symm hbw)).trans xadd_s, ?_, Nat.lt_succ_self _⟩ ?_ ⟨Nat.le_succ _, fun a ha hb hl => (xset_o ha).trans (xadd_o (Nat.ne_of_lt hl)), Or.inr (Nat.le_refl _)⟩ hcn.2.1
        · have h1 := H.2.2.1; have h2 := H.2.2.2; dsimp only at h1 h2 ⊢; omega
        · obtain ⟨a1, a2, a3, a4, a5, a6⟩ := hL
          dsimp only at a2
          exact ⟨a1, by show _ ≤ capN z cap; omega, ⟨Or.inr hc34, by show capN z cap ≤ 125; omega⟩, fun j hj => (show va_cpy f (fun _ => 0) 0 0 cap j = f j from sb_cpy0 (by omega)).trans (a4 j hj), a5, sb_fitC a6 sb_fit0⟩
theorem dJ1_canEncode_fc78d_0 : decode cJ1_canEncode_fc78d 0 = .ok (.iload_n 0, 1) := by decide +kernel
theorem dJ1_canEncode_fc78d_1 : decode cJ1_canEncode_fc78d 1 = .ok (.sipush 255, 3) := by decide +kernel
theorem dJ1_canEncode_fc78d_4 : decode cJ1_canEncode_fc78d 4 = .ok (.if_icmp .gt 7, 3) := by decide +kernel
theorem dJ1_canEncode_fc78d_7 : decode cJ1_canEncode_fc78d 7 = .ok (.iconst 1, 1) := by decide +kernel
theorem dJ1_canEncode_fc78d_8 : decode cJ1_canEncode_fc78d 8 = .ok (.goto 4, 3) := by decide +kernel
theorem dJ1_canEncode_fc78d_11 : decode cJ1_canEncode_fc78d 11 = .ok (.iconst 0, 1) := by decide +kernel
theorem dJ1_canEncode_fc78d_12 : decode cJ1_canEncode_fc78d 12 = .ok (.ireturn, 1) := by decide +kernel
/-- java/lang/StringLatin1.canEncode(C)Z -/
def M_J1_canEncode_fc78d : xM := (yJ1_canEncode_fc78d, cJ1_canEncode_fc78d, 1, (some FieldType.boolean), Cond.code yJ1_canEncode_fc78d cJ1_canEncode_fc78d 1 (some FieldType.boolean) :: xAll, { frames := 5, cells := 0, slots := 0, locals := 90 }, (0, 0), [])
set_option maxRecDepth 100000 in
set_option maxHeartbeats 4000000 in
theorem ct_J1_canEncode_fc78d {E : xE} {Po : xPo} {w : xW} {x : Int32} (h : ¬ 255 < x) (hp : Po (.inl (some (.int 1))) w) : Ct M_J1_canEncode_fc78d E [.int x] w Po := by
  refine Ct.of (ws2 := xAll) (L := [some (.int x)]) (by decide +kernel) rfl rfl (List.forall_mem_cons.mpr ⟨rfl, fun _ h => absurd h List.not_mem_nil⟩) (Nat.le_of_ble_eq_true rfl) rfl ?_
  refine r_iload_n (q := 1) dJ1_canEncode_fc78d_0 rfl rfl rfl ?_
  refine r_sipush (q := 4) (v := 255) dJ1_canEncode_fc78d_1 (by decide) rfl ?_
  refine r_icmp_gt (q := 11) (q2 := 7) dJ1_canEncode_fc78d_4 (by decide) rfl (fun h9 => absurd h9 h) (fun _ => ?_)
  refine r_iconst (q := 8) (v := 1) dJ1_canEncode_fc78d_7 rfl rfl ?_
  refine r_goto (q := 12) dJ1_canEncode_fc78d_8 (by decide) ?_
  refine r_zret dJ1_canEncode_fc78d_12 rfl (by decide) (Nat.le_of_ble_eq_true rfl) (Nat.le_of_ble_eq_true rfl) ?_
  exact hp
theorem dJ5_append_3fe6f_0 : decode cJ5_append_3fe6f 0 = .ok (.aload_n 0, 1) := by decide +kernel
theorem dJ5_append_3fe6f_1 : decode cJ5_append_3fe6f 1 = .ok (.aload_n 0, 1) := by decide +kernel
theorem dJ5_append_3fe6f_2 : decode cJ5_append_3fe6f 2 = .ok (.getfield 79, 3) := by decide +kernel
theorem dJ5_append_3fe6f_5 : decode cJ5_append_3fe6f 5 = .ok (.iconst 1, 1) := by decide +kernel
theorem dJ5_append_3fe6f_6 : decode cJ5_append_3fe6f 6 = .ok (.iadd, 1) := by decide +kernel
theorem dJ5_append_3fe6f_7 : decode cJ5_append_3fe6f 7 = .ok (.invokevirtual 100, 3) := by decide +kernel
theorem dJ5_append_3fe6f_10 : decode cJ5_append_3fe6f 10 = .ok (.aload_n 0, 1) := by decide +kernel
theorem dJ5_append_3fe6f_11 : decode cJ5_append_3fe6f 11 = .ok (.invokevirtual 83, 3) := by decide +kernel
theorem dJ5_append_3fe6f_14 : decode cJ5_append_3fe6f 14 = .ok (.ifCond .eq 31, 3) := by decide +kernel
theorem dJ5_append_3fe6f_17 : decode cJ5_append_3fe6f 17 = .ok (.iload_n 1, 1) := by decide +kernel
theorem dJ5_append_3fe6f_18 : decode cJ5_append_3fe6f 18 = .ok (.invokestatic 191, 3) := by decide +kernel
theorem dJ5_append_3fe6f_21 : decode cJ5_append_3fe6f 21 = .ok (.ifCond .eq 24, 3) := by decide +kernel
theorem dJ5_append_3fe6f_24 : decode cJ5_append_3fe6f 24 = .ok (.aload_n 0, 1) := by decide +kernel
theorem dJ5_append_3fe6f_25 : decode cJ5_append_3fe6f 25 = .ok (.getfield 15, 3) := by decide +kernel
theorem dJ5_append_3fe6f_28 : decode cJ5_append_3fe6f 28 = .ok (.aload_n 0, 1) := by decide +kernel
theorem dJ5_append_3fe6f_29 : decode cJ5_append_3fe6f 29 = .ok (.dup, 1) := by decide +kernel
theorem dJ5_append_3fe6f_30 : decode cJ5_append_3fe6f 30 = .ok (.getfield 79, 3) := by decide +kernel
theorem dJ5_append_3fe6f_33 : decode cJ5_append_3fe6f 33 = .ok (.dup_x1, 1) := by decide +kernel
theorem dJ5_append_3fe6f_34 : decode cJ5_append_3fe6f 34 = .ok (.iconst 1, 1) := by decide +kernel
theorem dJ5_append_3fe6f_35 : decode cJ5_append_3fe6f 35 = .ok (.iadd, 1) := by decide +kernel
theorem dJ5_append_3fe6f_36 : decode cJ5_append_3fe6f 36 = .ok (.putfield 79, 3) := by decide +kernel
theorem dJ5_append_3fe6f_39 : decode cJ5_append_3fe6f 39 = .ok (.iload_n 1, 1) := by decide +kernel
theorem dJ5_append_3fe6f_40 : decode cJ5_append_3fe6f 40 = .ok (.i2b, 1) := by decide +kernel
theorem dJ5_append_3fe6f_41 : decode cJ5_append_3fe6f 41 = .ok (.bastore, 1) := by decide +kernel
theorem dJ5_append_3fe6f_42 : decode cJ5_append_3fe6f 42 = .ok (.goto 33, 3) := by decide +kernel
theorem dJ5_append_3fe6f_45 : decode cJ5_append_3fe6f 45 = .ok (.aload_n 0, 1) := by decide +kernel
theorem dJ5_append_3fe6f_46 : decode cJ5_append_3fe6f 46 = .ok (.invokevirtual 83, 3) := by decide +kernel
theorem dJ5_append_3fe6f_49 : decode cJ5_append_3fe6f 49 = .ok (.ifCond .eq 7, 3) := by decide +kernel
theorem dJ5_append_3fe6f_52 : decode cJ5_append_3fe6f 52 = .ok (.aload_n 0, 1) := by decide +kernel
theorem dJ5_append_3fe6f_53 : decode cJ5_append_3fe6f 53 = .ok (.invokevirtual 195, 3) := by decide +kernel
theorem dJ5_append_3fe6f_56 : decode cJ5_append_3fe6f 56 = .ok (.aload_n 0, 1) := by decide +kernel
theorem dJ5_append_3fe6f_57 : decode cJ5_append_3fe6f 57 = .ok (.getfield 15, 3) := by decide +kernel
theorem dJ5_append_3fe6f_60 : decode cJ5_append_3fe6f 60 = .ok (.aload_n 0, 1) := by decide +kernel
theorem dJ5_append_3fe6f_61 : decode cJ5_append_3fe6f 61 = .ok (.dup, 1) := by decide +kernel
theorem dJ5_append_3fe6f_62 : decode cJ5_append_3fe6f 62 = .ok (.getfield 79, 3) := by decide +kernel
theorem dJ5_append_3fe6f_65 : decode cJ5_append_3fe6f 65 = .ok (.dup_x1, 1) := by decide +kernel
theorem dJ5_append_3fe6f_66 : decode cJ5_append_3fe6f 66 = .ok (.iconst 1, 1) := by decide +kernel
theorem dJ5_append_3fe6f_67 : decode cJ5_append_3fe6f 67 = .ok (.iadd, 1) := by decide +kernel
theorem dJ5_append_3fe6f_68 : decode cJ5_append_3fe6f 68 = .ok (.putfield 79, 3) := by decide +kernel
theorem dJ5_append_3fe6f_71 : decode cJ5_append_3fe6f 71 = .ok (.iload_n 1, 1) := by decide +kernel
theorem dJ5_append_3fe6f_72 : decode cJ5_append_3fe6f 72 = .ok (.invokestatic 197, 3) := by decide +kernel
theorem dJ5_append_3fe6f_75 : decode cJ5_append_3fe6f 75 = .ok (.aload_n 0, 1) := by decide +kernel
theorem dJ5_append_3fe6f_76 : decode cJ5_append_3fe6f 76 = .ok (.areturn, 1) := by decide +kernel
/-- java/lang/AbstractStringBuilder.append(C)Ljava/lang/AbstractStringBuilder; -/
def M_J5_append_3fe6f : xM := (yJ5_append_3fe6f, cJ5_append_3fe6f, 2, (some (FieldType.object "java/lang/AbstractStringBuilder")), Cond.code yJ5_append_3fe6f cJ5_append_3fe6f 2 (some (FieldType.object "java/lang/AbstractStringBuilder")) :: (xPv ++ xAll), { frames := 8, cells := 1, slots := 122, locals := 160 }, (1, 122), [])
theorem f_J5_append_3fe6f_79 : xFl2 M_J5_append_3fe6f 79 1 3 (tyJ4 3) := ⟨RJ4, TJ4, 4, tyJ4, rfl, by decide, fun w h => mP (inJ4 w h), mP (bw2), tyJ4_ok, nmJ4, rfl, rfl⟩
theorem bw27 : (Jvm.Cond.code ({ cls := "java/lang/AbstractStringBuilder", name := "ensureCapacityInternal", desc := "(I)V" } : Jvm.MethodName) prog_14_method_9_code (3 : Nat) (Option.none : Option Jvm.ClassFile.FieldType)) ∈ xAll := xin4 (List.mem_of_getElem? (i := 160) (by decide +kernel)) (by decide +kernel)
theorem bw28 : (Jvm.Cond.methodLink "java/lang/AbstractStringBuilder" (100 : Nat) ({ cls := "java/lang/AbstractStringBuilder", name := "ensureCapacityInternal", desc := "(I)V" } : Jvm.MethodName)) ∈ xAll := xin4 (List.mem_of_getElem? (i := 157) (by decide +kernel)) (by decide +kernel)
theorem bw29 : (Jvm.Cond.instanceMethod ({ cls := "java/lang/AbstractStringBuilder", name := "ensureCapacityInternal", desc := "(I)V" } : Jvm.MethodName)) ∈ xAll := xin4 (List.mem_of_getElem? (i := 159) (by decide +kernel)) (by decide +kernel)
theorem s_J5_append_3fe6f_100 : xSpriv M_J5_append_3fe6f M_J5_ensureCapacityInternal_d00df 100 1 := fun s args hts => ⟨liftB (callB_of 1 (htsP hts) (xGood bw27) rfl rfl rfl (hts _ (mP (bw19))) (hts _ (mP (bw28))) (by decide +kernel) ⟨Nat.le_of_ble_eq_true rfl, Nat.le_of_ble_eq_true rfl⟩) (htsQ hts), (hts _ (mP (bw29))), htsQ hts _ (List.mem_of_getElem? (i := 0) rfl), "java/lang/StringBuilder", ({ cls := "java/lang/AbstractStringBuilder", name := "isLatin1", desc := "()Z" } : Jvm.MethodName), (hts _ (mP (bw22))), rfl⟩
theorem bw30 : (Jvm.Cond.code ({ cls := "java/lang/AbstractStringBuilder", name := "isLatin1", desc := "()Z" } : Jvm.MethodName) prog_14_method_68_code (1 : Nat) (Option.some Jvm.ClassFile.FieldType.boolean)) ∈ xAll := xin4 (List.mem_of_getElem? (i := 192) (by decide +kernel)) (by decide +kernel)
theorem bw31 : (Jvm.Cond.methodLink "java/lang/AbstractStringBuilder" (83 : Nat) ({ cls := "java/lang/AbstractStringBuilder", name := "isLatin1", desc := "()Z" } : Jvm.MethodName)) ∈ xAll := xin4 (List.mem_of_getElem? (i := 188) (by decide +kernel)) (by decide +kernel)
theorem bw32 : (Jvm.Cond.instanceMethod ({ cls := "java/lang/AbstractStringBuilder", name := "isLatin1", desc := "()Z" } : Jvm.MethodName)) ∈ xAll := xin4 (List.mem_of_getElem? (i := 189) (by decide +kernel)) (by decide +kernel)
theorem s_J5_append_3fe6f_83 : xSvC M_J5_append_3fe6f M_J5_isLatin1_aae02 "java/lang/StringBuilder" 83 0 := fun s args hts => ⟨callB_of 0 (htsP hts) (xGood bw30) rfl rfl rfl (hts _ (mP (bw19))) (hts _ (mP (bw31))) (by decide +kernel) ⟨Nat.le_of_ble_eq_true rfl, Nat.le_of_ble_eq_true rfl⟩, (hts _ (mP (bw32))), (hts _ (mP (bw22)))⟩
theorem bw33 : (Jvm.Cond.code ({ cls := "java/lang/StringLatin1", name := "canEncode", desc := "(C)Z" } : Jvm.MethodName) prog_33_method_3_code (1 : Nat) (Option.some Jvm.ClassFile.FieldType.boolean)) ∈ xAll := xin5 (List.mem_of_getElem? (i := 0) (by decide +kernel)) (by decide +kernel)
theorem bw34 : (Jvm.Cond.initialized "java/lang/StringLatin1") ∈ xAll := xin1 (List.mem_of_getElem? (i := 31) (by decide +kernel)) (by decide +kernel)
theorem bw35 : (Jvm.Cond.methodLink "java/lang/AbstractStringBuilder" (191 : Nat) ({ cls := "java/lang/StringLatin1", name := "canEncode", desc := "(C)Z" } : Jvm.MethodName)) ∈ xAll := xin4 (List.mem_of_getElem? (i := 238) (by decide +kernel)) (by decide +kernel)
theorem bw36 : (Jvm.Cond.static ({ cls := "java/lang/StringLatin1", name := "canEncode", desc := "(C)Z" } : Jvm.MethodName)) ∈ xAll := xin4 (List.mem_of_getElem? (i := 239) (by decide +kernel)) (by decide +kernel)
theorem s_J5_append_3fe6f_191 : xSs M_J5_append_3fe6f M_J1_canEncode_fc78d 191 1 := fun s args hts => ⟨callB_of 1 (htsP hts) (xGood bw33) rfl rfl rfl (hts _ (mP (bw34))) (hts _ (mP (bw35))) (by decide +kernel) ⟨Nat.le_of_ble_eq_true rfl, Nat.le_of_ble_eq_true rfl⟩, (hts _ (mP (bw36)))⟩
theorem f_J5_append_3fe6f_15 : xFl2 M_J5_append_3fe6f 15 1 0 (tyJ4 0) := ⟨RJ4, TJ4, 4, tyJ4, rfl, by decide, fun w h => mP (inJ4 w h), mP (bw8), tyJ4_ok, nmJ4, rfl, rfl⟩
set_option maxRecDepth 100000 in
set_option maxHeartbeats 4000000 in
theorem ct_J5_append_3fe6f {E : xE} {Po : xPo} {w : xW} {b : Nat} {va cap : Nat} {ml ct : Int32} {f : Nat → Int32} (H : HB E w b (va, cap, ml, ct, f)) {l : List Int32} (hL : hasL (va, cap, ml, ct, f) l) {x : Int32} (hx : okB x) (hl : l.length + 1 ≤ 60) (hp : ∀ (u : xW) (B2 : xBd), HB E u b B2 → hasL B2 (l ++ [x]) → FB w u b (va, cap, ml, ct, f) B2 → Po (.inl (some (.ref b))) u) : Ct M_J5_append_3fe6f E [.ref b, .int x] w Po := by
  refine Ct.of (ws2 := xPv ++ xAll) (L := [some (.ref b), some (.int x)]) (by decide +kernel) rfl rfl (List.forall_mem_cons.mpr ⟨rfl, List.forall_mem_cons.mpr ⟨rfl, fun _ h => absurd h List.not_mem_nil⟩⟩) (Nat.le_of_ble_eq_true rfl) rfl ?_
  obtain rfl : ct = nI l.length := hL.1
  refine r_aload_n (q := 1) dJ5_append_3fe6f_0 rfl rfl rfl ?_
  refine r_aload_n (q := 2) dJ5_append_3fe6f_1 rfl rfl rfl ?_
  refine r_getfS (q := 5) dJ5_append_3fe6f_2 f_J5_append_3fe6f_79 H.1 rfl rfl ?_
  refine r_iconst (q := 6) (v := 1) dJ5_append_3fe6f_5 rfl rfl ?_
  refine r_iadd (q := 7) dJ5_append_3fe6f_6 rfl ?_
  rw [nI_1]
  refine r_callP (q := 10) (ci := 1) (As := [_]) dJ5_append_3fe6f_7 s_J5_append_3fe6f_100 H.1 rfl rfl (Nat.le_of_ble_eq_true rfl) rfl rfl rfl (Nat.le_of_ble_eq_true rfl) (Nat.le_of_ble_eq_true rfl) ⟨(Nat.le_of_ble_eq_true rfl), (Nat.le_of_ble_eq_true rfl)⟩ rfl ?_
  refine ct_J5_ensureCapacityInternal_d00df H hL (by omega) (fun u B2 H2 L2 F2 c2 => ?_)
  show WF _ E Po _ _ _ _ _ _ _
  obtain ⟨va2, cap2, ml2, ct2, f2⟩ := B2
  obtain rfl : ct2 = nI l.length := L2.1
  have hcap2 : cap2 ≤ 125 := L2.2.2.1.2
  have hbva : b < va2 := H2.2.2.1
  change _ ≤ cap2 at c2
  refine r_aload_n (q := 11) dJ5_append_3fe6f_10 rfl rfl rfl ?_
  refine r_callVC (q := 14) (ci := 1) (As := []) dJ5_append_3fe6f_11 s_J5_append_3fe6f_83 H2.1 rfl rfl rfl (Nat.le_of_ble_eq_true rfl) rfl rfl rfl (Nat.le_of_ble_eq_true rfl) (Nat.le_of_ble_eq_true rfl) ⟨(Nat.le_of_ble_eq_true rfl), (Nat.le_of_ble_eq_true rfl)⟩ rfl ?_
  refine ct_J5_isLatin1_aae02 H2 ?_
  show WF _ E Po _ _ _ _ _ _ _
  refine r_if_eq (q := 45) (q2 := 17) dJ5_append_3fe6f_14 (by decide) rfl (fun h9 => absurd h9 (by decide)) (fun _ => ?_)
  refine r_iload_n (q := 18) dJ5_append_3fe6f_17 rfl rfl rfl ?_
  refine r_callS (q := 21) (As := [_]) dJ5_append_3fe6f_18 s_J5_append_3fe6f_191 rfl rfl (Nat.le_of_ble_eq_true rfl) rfl rfl rfl (Nat.le_of_ble_eq_true rfl) (Nat.le_of_ble_eq_true rfl) ⟨(Nat.le_of_ble_eq_true rfl), (Nat.le_of_ble_eq_true rfl)⟩ rfl ?_
  refine ct_J1_canEncode_fc78d hx.2.2.2.2.2 ?_
  show WF _ E Po _ _ _ _ _ _ _
  refine r_if_eq (q := 45) (q2 := 24) dJ5_append_3fe6f_21 (by decide) rfl (fun h9 => absurd h9 (by decide)) (fun _ => ?_)
  refine r_aload_n (q := 25) dJ5_append_3fe6f_24 rfl rfl rfl ?_
  refine r_getfS (q := 28) dJ5_append_3fe6f_25 f_J5_append_3fe6f_15 H2.1 rfl rfl ?_
  refine r_aload_n (q := 29) dJ5_append_3fe6f_28 rfl rfl rfl ?_
  refine r_dup (q := 30) dJ5_append_3fe6f_29 rfl rfl ?_
  refine r_getfS (q := 33) dJ5_append_3fe6f_30 f_J5_append_3fe6f_79 H2.1 rfl rfl ?_
  refine r_dup_x1 (q := 34) dJ5_append_3fe6f_33 rfl rfl rfl ?_
  refine r_iconst (q := 35) (v := 1) dJ5_append_3fe6f_34 rfl rfl ?_
  refine r_iadd (q := 36) dJ5_append_3fe6f_35 rfl ?_
  rw [nI_1]
  refine r_putfS (q := 39) dJ5_append_3fe6f_36 f_J5_append_3fe6f_79 H2.1 rfl rfl (Nat.le_of_ble_eq_true rfl) rfl ?_
  refine WF.cw (show xset u b _ = xset u b (sbdE va2 ml2 (nI (l.length + 1))) from rfl) ?_
  refine r_iload_n (q := 40) dJ5_append_3fe6f_39 rfl rfl rfl ?_
  refine r_i2b (q := 41) dJ5_append_3fe6f_40 rfl ?_
  have hv2 : (xset u b (sbdE va2 ml2 (nI (l.length + 1)))).1 va2 = some (.inl (E.1.2 7, cap2, .inl f2)) := (HB.putC H2).2.1
  refine r_bastore (q := 42) dJ5_append_3fe6f_41 hv2 (vp_in_nI (by omega) (by omega)) rfl ?_
  rw [nI_cl (by omega), hx.2.2.1]
  refine WF.cw (xset_comm (Nat.ne_of_lt hbva)) ?_
  refine r_goto (q := 75) dJ5_append_3fe6f_42 (by decide) ?_
  refine r_aload_n (q := 76) dJ5_append_3fe6f_75 rfl rfl rfl ?_
  refine r_aret dJ5_append_3fe6f_76 rfl (Or.inr ⟨_, rfl⟩) (Nat.le_of_ble_eq_true rfl) (Nat.le_of_ble_eq_true rfl) ?_
  exact hp _ (va2, cap2, ml2, nI (l.length + 1), upd f2 l.length x) (HB.put H2) (hasL.app L2 (k := [x]) c2 (fun j hj => pk_un (by omega)) (fun j hj => by
    obtain rfl : j = 0 := by simp at hj; omega
    exact pk_us) (by simpa using hx) (sb_fitU L2.2.2.2.2.2 hx.2.2.2.2.1)) F2.put
theorem dJ4_append_cf468_0 : decode cJ4_append_cf468 0 = .ok (.aload_n 0, 1) := by decide +kernel
theorem dJ4_append_cf468_1 : decode cJ4_append_cf468 1 = .ok (.iload_n 1, 1) := by decide +kernel
theorem dJ4_append_cf468_2 : decode cJ4_append_cf468 2 = .ok (.invokespecial 50, 3) := by decide +kernel
theorem dJ4_append_cf468_5 : decode cJ4_append_cf468 5 = .ok (.pop, 1) := by decide +kernel
theorem dJ4_append_cf468_6 : decode cJ4_append_cf468 6 = .ok (.aload_n 0, 1) := by decide +kernel
theorem dJ4_append_cf468_7 : decode cJ4_append_cf468 7 = .ok (.areturn, 1) := by decide +kernel
/-- java/lang/StringBuilder.append(C)Ljava/lang/StringBuilder; -/
def M_J4_append_cf468 : xM := (yJ4_append_cf468, cJ4_append_cf468, 2, (some (FieldType.object "java/lang/StringBuilder")), Cond.code yJ4_append_cf468 cJ4_append_cf468 2 (some (FieldType.object "java/lang/StringBuilder")) :: (xPv ++ xAll), { frames := 9, cells := 1, slots := 122, locals := 181 }, (1, 122), [])
theorem bw37 : (Jvm.Cond.code ({ cls := "java/lang/AbstractStringBuilder", name := "append", desc := "(C)Ljava/lang/AbstractStringBuilder;" } : Jvm.MethodName) prog_14_method_31_code (2 : Nat) (Option.some (Jvm.ClassFile.FieldType.object "java/lang/AbstractStringBuilder"))) ∈ xAll := xin4 (List.mem_of_getElem? (i := 237) (by decide +kernel)) (by decide +kernel)
theorem bw38 : (Jvm.Cond.methodLink "java/lang/StringBuilder" (50 : Nat) ({ cls := "java/lang/AbstractStringBuilder", name := "append", desc := "(C)Ljava/lang/AbstractStringBuilder;" } : Jvm.MethodName)) ∈ xAll := xin4 (List.mem_of_getElem? (i := 235) (by decide +kernel)) (by decide +kernel)
theorem bw39 : (Jvm.Cond.sameMethod "java/lang/AbstractStringBuilder" "java/lang/AbstractStringBuilder" "append" "(C)Ljava/lang/AbstractStringBuilder;") ∈ xAll := xin6 (List.mem_of_getElem? (i := 206) (by decide +kernel)) (by decide +kernel)
theorem bw40 : (Jvm.Cond.superclass "java/lang/StringBuilder" "java/lang/AbstractStringBuilder") ∈ xAll := xin2 (List.mem_of_getElem? (i := 52) (by decide +kernel)) (by decide +kernel)
theorem bw41 : (Jvm.Cond.instanceMethod ({ cls := "java/lang/AbstractStringBuilder", name := "append", desc := "(C)Ljava/lang/AbstractStringBuilder;" } : Jvm.MethodName)) ∈ xAll := xin4 (List.mem_of_getElem? (i := 236) (by decide +kernel)) (by decide +kernel)
theorem s_J4_append_cf468_50 : xSuper M_J4_append_cf468 M_J5_append_3fe6f 50 1 := fun s args hts => liftS (va_cwSU 1 (htsP hts) (xGSU bw38 bw39 bw40 bw41 bw19 bw37) rfl rfl rfl (by decide +kernel) ⟨Nat.le_of_ble_eq_true rfl, Nat.le_of_ble_eq_true rfl⟩) (htsQ hts)
set_option maxRecDepth 100000 in
set_option maxHeartbeats 4000000 in
theorem ct_J4_append_cf468 {E : xE} {Po : xPo} {w : xW} {b : Nat} {va cap : Nat} {ml ct : Int32} {f : Nat → Int32} (H : HB E w b (va, cap, ml, ct, f)) {l : List Int32} (hL : hasL (va, cap, ml, ct, f) l) {x : Int32} (hx : okB x) (hl : l.length + 1 ≤ 60) (hp : ∀ (u : xW) (B2 : xBd), HB E u b B2 → hasL B2 (l ++ [x]) → FB w u b (va, cap, ml, ct, f) B2 → Po (.inl (some (.ref b))) u) : Ct M_J4_append_cf468 E [.ref b, .int x] w Po := by
  refine Ct.of (ws2 := xPv ++ xAll) (L := [some (.ref b), some (.int x)]) (by decide +kernel) rfl rfl (List.forall_mem_cons.mpr ⟨rfl, List.forall_mem_cons.mpr ⟨rfl, fun _ h => absurd h List.not_mem_nil⟩⟩) (Nat.le_of_ble_eq_true rfl) rfl ?_
  refine r_aload_n (q := 1) dJ4_append_cf468_0 rfl rfl rfl ?_
  refine r_iload_n (q := 2) dJ4_append_cf468_1 rfl rfl rfl ?_
  refine r_callSp (q := 5) (ci := 1) (As := [_]) dJ4_append_cf468_2 s_J4_append_cf468_50 H.1 rfl (Nat.le_of_ble_eq_true rfl) rfl rfl rfl ⟨(Nat.le_of_ble_eq_true rfl), (Nat.le_of_ble_eq_true rfl)⟩ rfl ?_
  refine ct_J5_append_3fe6f H hL hx hl (fun u B2 H2 L2 F2 => ?_)
  show WF _ E Po _ _ _ _ _ _ _
  refine r_pop (q := 6) dJ4_append_cf468_5 rfl rfl ?_
  refine r_aload_n (q := 7) dJ4_append_cf468_6 rfl rfl rfl ?_
  refine r_aret dJ4_append_cf468_7 rfl (Or.inr ⟨_, rfl⟩) (Nat.le_of_ble_eq_true rfl) (Nat.le_of_ble_eq_true rfl) ?_
  exact hp u B2 H2 L2 F2
theorem digs_l3 {a : Nat} (h : 100 ≤ a) : (digs a).length = 3 := by
  unfold digs
  rw [if_neg (by omega), if_neg (by omega)]; rfl
theorem digs_l2 {a : Nat} (h : 10 ≤ a) (h2 : a ≤ 99) : (digs a).length = 2 := by
  unfold digs
  rw [if_neg (by omega), if_pos (by omega)]; rfl
theorem digs_l1 {a : Nat} (h : a ≤ 9) : (digs a).length = 1 := by
  unfold digs
  rw [if_pos h]; rfl
theorem ngle {a c : Nat} (ha : a < 1000) (hc : c ≤ 1000) : -nI a ≤ -nI c ↔ c ≤ a := sb_nle (by omega) (by omega)
theorem dJ6_stringSize_0f7a4_0 : decode cJ6_stringSize_0f7a4 0 = .ok (.iconst 1, 1) := by decide +kernel
theorem dJ6_stringSize_0f7a4_1 : decode cJ6_stringSize_0f7a4 1 = .ok (.istore_n 1, 1) := by decide +kernel
theorem dJ6_stringSize_0f7a4_2 : decode cJ6_stringSize_0f7a4 2 = .ok (.iload_n 0, 1) := by decide +kernel
theorem dJ6_stringSize_0f7a4_3 : decode cJ6_stringSize_0f7a4 3 = .ok (.ifCond .lt 8, 3) := by decide +kernel
theorem dJ6_stringSize_0f7a4_6 : decode cJ6_stringSize_0f7a4 6 = .ok (.iconst 0, 1) := by decide +kernel
theorem dJ6_stringSize_0f7a4_7 : decode cJ6_stringSize_0f7a4 7 = .ok (.istore_n 1, 1) := by decide +kernel
theorem dJ6_stringSize_0f7a4_8 : decode cJ6_stringSize_0f7a4 8 = .ok (.iload_n 0, 1) := by decide +kernel
theorem dJ6_stringSize_0f7a4_9 : decode cJ6_stringSize_0f7a4 9 = .ok (.ineg, 1) := by decide +kernel
theorem dJ6_stringSize_0f7a4_10 : decode cJ6_stringSize_0f7a4 10 = .ok (.istore_n 0, 1) := by decide +kernel
theorem dJ6_stringSize_0f7a4_11 : decode cJ6_stringSize_0f7a4 11 = .ok (.bipush (-10), 2) := by decide +kernel
theorem dJ6_stringSize_0f7a4_13 : decode cJ6_stringSize_0f7a4 13 = .ok (.istore_n 2, 1) := by decide +kernel
theorem dJ6_stringSize_0f7a4_14 : decode cJ6_stringSize_0f7a4 14 = .ok (.iconst 1, 1) := by decide +kernel
theorem dJ6_stringSize_0f7a4_15 : decode cJ6_stringSize_0f7a4 15 = .ok (.istore_n 3, 1) := by decide +kernel
theorem dJ6_stringSize_0f7a4_16 : decode cJ6_stringSize_0f7a4 16 = .ok (.iload_n 3, 1) := by decide +kernel
theorem dJ6_stringSize_0f7a4_17 : decode cJ6_stringSize_0f7a4 17 = .ok (.bipush 10, 2) := by decide +kernel
theorem dJ6_stringSize_0f7a4_19 : decode cJ6_stringSize_0f7a4 19 = .ok (.if_icmp .ge 23, 3) := by decide +kernel
theorem dJ6_stringSize_0f7a4_22 : decode cJ6_stringSize_0f7a4 22 = .ok (.iload_n 0, 1) := by decide +kernel
theorem dJ6_stringSize_0f7a4_23 : decode cJ6_stringSize_0f7a4 23 = .ok (.iload_n 2, 1) := by decide +kernel
theorem dJ6_stringSize_0f7a4_24 : decode cJ6_stringSize_0f7a4 24 = .ok (.if_icmp .le 7, 3) := by decide +kernel
theorem dJ6_stringSize_0f7a4_27 : decode cJ6_stringSize_0f7a4 27 = .ok (.iload_n 3, 1) := by decide +kernel
theorem dJ6_stringSize_0f7a4_28 : decode cJ6_stringSize_0f7a4 28 = .ok (.iload_n 1, 1) := by decide +kernel
theorem dJ6_stringSize_0f7a4_29 : decode cJ6_stringSize_0f7a4 29 = .ok (.iadd, 1) := by decide +kernel
theorem dJ6_stringSize_0f7a4_30 : decode cJ6_stringSize_0f7a4 30 = .ok (.ireturn, 1) := by decide +kernel
theorem dJ6_stringSize_0f7a4_31 : decode cJ6_stringSize_0f7a4 31 = .ok (.bipush 10, 2) := by decide +kernel
theorem dJ6_stringSize_0f7a4_33 : decode cJ6_stringSize_0f7a4 33 = .ok (.iload_n 2, 1) := by decide +kernel
theorem dJ6_stringSize_0f7a4_34 : decode cJ6_stringSize_0f7a4 34 = .ok (.imul, 1) := by decide +kernel
theorem dJ6_stringSize_0f7a4_35 : decode cJ6_stringSize_0f7a4 35 = .ok (.istore_n 2, 1) := by decide +kernel
theorem dJ6_stringSize_0f7a4_36 : decode cJ6_stringSize_0f7a4 36 = .ok (.iinc 3 1, 3) := by decide +kernel
theorem dJ6_stringSize_0f7a4_39 : decode cJ6_stringSize_0f7a4 39 = .ok (.goto (-23), 3) := by decide +kernel
theorem dJ6_stringSize_0f7a4_42 : decode cJ6_stringSize_0f7a4 42 = .ok (.bipush 10, 2) := by decide +kernel
theorem dJ6_stringSize_0f7a4_44 : decode cJ6_stringSize_0f7a4 44 = .ok (.iload_n 1, 1) := by decide +kernel
theorem dJ6_stringSize_0f7a4_45 : decode cJ6_stringSize_0f7a4 45 = .ok (.iadd, 1) := by decide +kernel
theorem dJ6_stringSize_0f7a4_46 : decode cJ6_stringSize_0f7a4 46 = .ok (.ireturn, 1) := by decide +kernel
/-- java/lang/Integer.stringSize(I)I -/
def M_J6_stringSize_0f7a4 : xM := (yJ6_stringSize_0f7a4, cJ6_stringSize_0f7a4, 4, (some FieldType.int), Cond.code yJ6_stringSize_0f7a4 cJ6_stringSize_0f7a4 4 (some FieldType.int) :: xAll, { frames := 5, cells := 0, slots := 0, locals := 90 }, (0, 0), [])
set_option maxRecDepth 100000 in
set_option maxHeartbeats 4000000 in
theorem ss3 {E : xE} {Po : xPo} {w0 w : xW} {a : Nat} {p i : Int32} (ep : p = -nI 1000) (ei : i = 3) (ha : a < 1000) (hl : 100 ≤ a) (hp : Po (.inl (some (.int (nI (digs a).length)))) w) : WF M_J6_stringSize_0f7a4 E Po w0 16 [some (.int (-nI a)), some (.int 0), some (.int p), some (.int i)] [] w 0 0 := by
  subst ep ei
  refine r_iload_n (q := 17) dJ6_stringSize_0f7a4_16 rfl rfl rfl ?_
  refine r_bipush (q := 19) (v := 10) dJ6_stringSize_0f7a4_17 (by decide) rfl ?_
  refine r_icmp_ge (q := 42) (q2 := 22) dJ6_stringSize_0f7a4_19 (by decide) rfl (fun h9 => absurd h9 (by decide)) (fun _ => ?_)
  refine r_iload_n (q := 23) dJ6_stringSize_0f7a4_22 rfl rfl rfl ?_
  refine r_iload_n (q := 24) dJ6_stringSize_0f7a4_23 rfl rfl rfl ?_
  refine r_icmp_le (q := 31) (q2 := 27) dJ6_stringSize_0f7a4_24 (by decide) rfl (fun h9 => absurd ((ngle ha (by decide)).mp h9) (by omega)) (fun _ => ?_)
  refine r_iload_n (q := 28) dJ6_stringSize_0f7a4_27 rfl rfl rfl ?_
  refine r_iload_n (q := 29) dJ6_stringSize_0f7a4_28 rfl rfl rfl ?_
  refine r_iadd (q := 30) dJ6_stringSize_0f7a4_29 rfl ?_
  rw [show (3 : Int32) + 0 = nI (digs a).length by rw [digs_l3 hl]; decide]
  refine r_iret dJ6_stringSize_0f7a4_30 rfl (Nat.le_of_ble_eq_true rfl) (Nat.le_of_ble_eq_true rfl) ?_
  exact hp
set_option maxRecDepth 100000 in
set_option maxHeartbeats 4000000 in
theorem ss2 {E : xE} {Po : xPo} {w0 w : xW} {a : Nat} {p i : Int32} (ep : p = -nI 100) (ei : i = 2) (ha : a < 1000) (hl : 10 ≤ a) (hp : Po (.inl (some (.int (nI (digs a).length)))) w) : WF M_J6_stringSize_0f7a4 E Po w0 16 [some (.int (-nI a)), some (.int 0), some (.int p), some (.int i)] [] w 0 0 := by
  subst ep ei
  refine r_iload_n (q := 17) dJ6_stringSize_0f7a4_16 rfl rfl rfl ?_
  refine r_bipush (q := 19) (v := 10) dJ6_stringSize_0f7a4_17 (by decide) rfl ?_
  refine r_icmp_ge (q := 42) (q2 := 22) dJ6_stringSize_0f7a4_19 (by decide) rfl (fun h9 => absurd h9 (by decide)) (fun _ => ?_)
  refine r_iload_n (q := 23) dJ6_stringSize_0f7a4_22 rfl rfl rfl ?_
  refine r_iload_n (q := 24) dJ6_stringSize_0f7a4_23 rfl rfl rfl ?_
  refine r_icmp_le (q := 31) (q2 := 27) dJ6_stringSize_0f7a4_24 (by decide) rfl (fun h24 => ?_) (fun h24 => ?_)
  · have h8 := (ngle ha (by decide)).mp h24
    refine r_bipush (q := 33) (v := 10) dJ6_stringSize_0f7a4_31 (by decide) rfl ?_
    refine r_iload_n (q := 34) dJ6_stringSize_0f7a4_33 rfl rfl rfl ?_
    refine r_imul (q := 35) dJ6_stringSize_0f7a4_34 rfl ?_
    refine r_istore_n (q := 36) dJ6_stringSize_0f7a4_35 rfl (Nat.le_of_ble_eq_true rfl) (xone_of rfl) rfl ?_
    refine r_iinc (q := 39) dJ6_stringSize_0f7a4_36 rfl (Nat.le_of_ble_eq_true rfl) (xone_of rfl) rfl ?_
    refine r_goto (q := 16) dJ6_stringSize_0f7a4_39 (by decide) ?_
    exact ss3 (by decide) (by decide) ha h8 hp
  · have h8 : ¬ 100 ≤ a := fun q => h24 ((ngle ha (by decide)).mpr q)
    refine r_iload_n (q := 28) dJ6_stringSize_0f7a4_27 rfl rfl rfl ?_
    refine r_iload_n (q := 29) dJ6_stringSize_0f7a4_28 rfl rfl rfl ?_
    refine r_iadd (q := 30) dJ6_stringSize_0f7a4_29 rfl ?_
    rw [show (2 : Int32) + 0 = nI (digs a).length by rw [digs_l2 hl (by omega)]; decide]
    refine r_iret dJ6_stringSize_0f7a4_30 rfl (Nat.le_of_ble_eq_true rfl) (Nat.le_of_ble_eq_true rfl) ?_
    exact hp
set_option maxRecDepth 100000 in
set_option maxHeartbeats 4000000 in
theorem ss1 {E : xE} {Po : xPo} {w0 w : xW} {a : Nat} {p i : Int32} (ep : p = -nI 10) (ei : i = 1) (ha : a < 1000) (hl : 0 ≤ a) (hp : Po (.inl (some (.int (nI (digs a).length)))) w) : WF M_J6_stringSize_0f7a4 E Po w0 16 [some (.int (-nI a)), some (.int 0), some (.int p), some (.int i)] [] w 0 0 := by
  subst ep ei
  refine r_iload_n (q := 17) dJ6_stringSize_0f7a4_16 rfl rfl rfl ?_
  refine r_bipush (q := 19) (v := 10) dJ6_stringSize_0f7a4_17 (by decide) rfl ?_
  refine r_icmp_ge (q := 42) (q2 := 22) dJ6_stringSize_0f7a4_19 (by decide) rfl (fun h9 => absurd h9 (by decide)) (fun _ => ?_)
  refine r_iload_n (q := 23) dJ6_stringSize_0f7a4_22 rfl rfl rfl ?_
  refine r_iload_n (q := 24) dJ6_stringSize_0f7a4_23 rfl rfl rfl ?_
  refine r_icmp_le (q := 31) (q2 := 27) dJ6_stringSize_0f7a4_24 (by decide) rfl (fun h24 => ?_) (fun h24 => ?_)
  · have h8 := (ngle ha (by decide)).mp h24
    refine r_bipush (q := 33) (v := 10) dJ6_stringSize_0f7a4_31 (by decide) rfl ?_
    refine r_iload_n (q := 34) dJ6_stringSize_0f7a4_33 rfl rfl rfl ?_
    refine r_imul (q := 35) dJ6_stringSize_0f7a4_34 rfl ?_
    refine r_istore_n (q := 36) dJ6_stringSize_0f7a4_35 rfl (Nat.le_of_ble_eq_true rfl) (xone_of rfl) rfl ?_
    refine r_iinc (q := 39) dJ6_stringSize_0f7a4_36 rfl (Nat.le_of_ble_eq_true rfl) (xone_of rfl) rfl ?_
    refine r_goto (q := 16) dJ6_stringSize_0f7a4_39 (by decide) ?_
    exact ss2 (by decide) (by decide) ha h8 hp
  · have h8 : ¬ 10 ≤ a := fun q => h24 ((ngle ha (by decide)).mpr q)
    refine r_iload_n (q := 28) dJ6_stringSize_0f7a4_27 rfl rfl rfl ?_
    refine r_iload_n (q := 29) dJ6_stringSize_0f7a4_28 rfl rfl rfl ?_
    refine r_iadd (q := 30) dJ6_stringSize_0f7a4_29 rfl ?_
    rw [show (1 : Int32) + 0 = nI (digs a).length by rw [digs_l1 (by omega)]; decide]
    refine r_iret dJ6_stringSize_0f7a4_30 rfl (Nat.le_of_ble_eq_true rfl) (Nat.le_of_ble_eq_true rfl) ?_
    exact hp
set_option maxRecDepth 100000 in
set_option maxHeartbeats 4000000 in
theorem ct_J6_stringSize_0f7a4 {E : xE} {Po : xPo} {w : xW} {a : Nat} (ha : a < 1000) (hp : Po (.inl (some (.int (nI (digs a).length)))) w) : Ct M_J6_stringSize_0f7a4 E [.int (nI a)] w Po := by
  refine Ct.of (ws2 := xAll) (L := [some (.int (nI a)), none, none, none]) (by decide +kernel) rfl rfl (List.forall_mem_cons.mpr ⟨rfl, fun _ h => absurd h List.not_mem_nil⟩) (Nat.le_of_ble_eq_true rfl) rfl ?_
  refine r_iconst (q := 1) (v := 1) dJ6_stringSize_0f7a4_0 rfl rfl ?_
  refine r_istore_n (q := 2) dJ6_stringSize_0f7a4_1 rfl (Nat.le_of_ble_eq_true rfl) (xone_of rfl) rfl ?_
  refine r_iload_n (q := 3) dJ6_stringSize_0f7a4_2 rfl rfl rfl ?_
  refine r_if_lt (q := 11) (q2 := 6) dJ6_stringSize_0f7a4_3 (by decide) rfl (fun h9 => absurd h9 (nI_pos (by omega))) (fun _ => ?_)
  refine r_iconst (q := 7) (v := 0) dJ6_stringSize_0f7a4_6 rfl rfl ?_
  refine r_istore_n (q := 8) dJ6_stringSize_0f7a4_7 rfl (Nat.le_of_ble_eq_true rfl) (xone_of rfl) rfl ?_
  refine r_iload_n (q := 9) dJ6_stringSize_0f7a4_8 rfl rfl rfl ?_
  refine r_ineg (q := 10) dJ6_stringSize_0f7a4_9 rfl ?_
  refine r_istore_n (q := 11) dJ6_stringSize_0f7a4_10 rfl (Nat.le_of_ble_eq_true rfl) (xone_of rfl) rfl ?_
  refine r_bipush (q := 13) (v := (-10)) dJ6_stringSize_0f7a4_11 (by decide) rfl ?_
  refine r_istore_n (q := 14) dJ6_stringSize_0f7a4_13 rfl (Nat.le_of_ble_eq_true rfl) (xone_of rfl) rfl ?_
  refine r_iconst (q := 15) (v := 1) dJ6_stringSize_0f7a4_14 rfl rfl ?_
  refine r_istore_n (q := 16) dJ6_stringSize_0f7a4_15 rfl (Nat.le_of_ble_eq_true rfl) (xone_of rfl) rfl ?_
  exact ss1 (by decide) (by decide) ha (Nat.zero_le _) hp
theorem dJ6_getChars_ba4f3_0 : decode cJ6_getChars_ba4f3 0 = .ok (.iload_n 1, 1) := by decide +kernel
theorem dJ6_getChars_ba4f3_1 : decode cJ6_getChars_ba4f3 1 = .ok (.istore 5, 2) := by decide +kernel
theorem dJ6_getChars_ba4f3_3 : decode cJ6_getChars_ba4f3 3 = .ok (.iload_n 0, 1) := by decide +kernel
theorem dJ6_getChars_ba4f3_4 : decode cJ6_getChars_ba4f3 4 = .ok (.ifCond .ge 7, 3) := by decide +kernel
theorem dJ6_getChars_ba4f3_7 : decode cJ6_getChars_ba4f3 7 = .ok (.iconst 1, 1) := by decide +kernel
theorem dJ6_getChars_ba4f3_8 : decode cJ6_getChars_ba4f3 8 = .ok (.goto 4, 3) := by decide +kernel
theorem dJ6_getChars_ba4f3_11 : decode cJ6_getChars_ba4f3 11 = .ok (.iconst 0, 1) := by decide +kernel
theorem dJ6_getChars_ba4f3_12 : decode cJ6_getChars_ba4f3 12 = .ok (.istore 6, 2) := by decide +kernel
theorem dJ6_getChars_ba4f3_14 : decode cJ6_getChars_ba4f3 14 = .ok (.iload 6, 2) := by decide +kernel
theorem dJ6_getChars_ba4f3_16 : decode cJ6_getChars_ba4f3 16 = .ok (.ifCond .ne 6, 3) := by decide +kernel
theorem dJ6_getChars_ba4f3_19 : decode cJ6_getChars_ba4f3 19 = .ok (.iload_n 0, 1) := by decide +kernel
theorem dJ6_getChars_ba4f3_20 : decode cJ6_getChars_ba4f3 20 = .ok (.ineg, 1) := by decide +kernel
theorem dJ6_getChars_ba4f3_21 : decode cJ6_getChars_ba4f3 21 = .ok (.istore_n 0, 1) := by decide +kernel
theorem dJ6_getChars_ba4f3_22 : decode cJ6_getChars_ba4f3 22 = .ok (.iload_n 0, 1) := by decide +kernel
theorem dJ6_getChars_ba4f3_23 : decode cJ6_getChars_ba4f3 23 = .ok (.bipush (-100), 2) := by decide +kernel
theorem dJ6_getChars_ba4f3_25 : decode cJ6_getChars_ba4f3 25 = .ok (.if_icmp .gt 47, 3) := by decide +kernel
theorem dJ6_getChars_ba4f3_28 : decode cJ6_getChars_ba4f3 28 = .ok (.iload_n 0, 1) := by decide +kernel
theorem dJ6_getChars_ba4f3_29 : decode cJ6_getChars_ba4f3 29 = .ok (.bipush 100, 2) := by decide +kernel
theorem dJ6_getChars_ba4f3_31 : decode cJ6_getChars_ba4f3 31 = .ok (.idiv, 1) := by decide +kernel
theorem dJ6_getChars_ba4f3_32 : decode cJ6_getChars_ba4f3 32 = .ok (.istore_n 3, 1) := by decide +kernel
theorem dJ6_getChars_ba4f3_33 : decode cJ6_getChars_ba4f3 33 = .ok (.iload_n 3, 1) := by decide +kernel
theorem dJ6_getChars_ba4f3_34 : decode cJ6_getChars_ba4f3 34 = .ok (.bipush 100, 2) := by decide +kernel
theorem dJ6_getChars_ba4f3_36 : decode cJ6_getChars_ba4f3 36 = .ok (.imul, 1) := by decide +kernel
theorem dJ6_getChars_ba4f3_37 : decode cJ6_getChars_ba4f3 37 = .ok (.iload_n 0, 1) := by decide +kernel
theorem dJ6_getChars_ba4f3_38 : decode cJ6_getChars_ba4f3 38 = .ok (.isub, 1) := by decide +kernel
theorem dJ6_getChars_ba4f3_39 : decode cJ6_getChars_ba4f3 39 = .ok (.istore 4, 2) := by decide +kernel
theorem dJ6_getChars_ba4f3_41 : decode cJ6_getChars_ba4f3 41 = .ok (.iload_n 3, 1) := by decide +kernel
theorem dJ6_getChars_ba4f3_42 : decode cJ6_getChars_ba4f3 42 = .ok (.istore_n 0, 1) := by decide +kernel
theorem dJ6_getChars_ba4f3_43 : decode cJ6_getChars_ba4f3 43 = .ok (.aload_n 2, 1) := by decide +kernel
theorem dJ6_getChars_ba4f3_44 : decode cJ6_getChars_ba4f3 44 = .ok (.iinc 5 (-1), 3) := by decide +kernel
theorem dJ6_getChars_ba4f3_47 : decode cJ6_getChars_ba4f3 47 = .ok (.iload 5, 2) := by decide +kernel
theorem dJ6_getChars_ba4f3_49 : decode cJ6_getChars_ba4f3 49 = .ok (.getstatic 83, 3) := by decide +kernel
theorem dJ6_getChars_ba4f3_52 : decode cJ6_getChars_ba4f3 52 = .ok (.iload 4, 2) := by decide +kernel
theorem dJ6_getChars_ba4f3_54 : decode cJ6_getChars_ba4f3 54 = .ok (.baload, 1) := by decide +kernel
theorem dJ6_getChars_ba4f3_55 : decode cJ6_getChars_ba4f3 55 = .ok (.bastore, 1) := by decide +kernel
theorem dJ6_getChars_ba4f3_56 : decode cJ6_getChars_ba4f3 56 = .ok (.aload_n 2, 1) := by decide +kernel
theorem dJ6_getChars_ba4f3_57 : decode cJ6_getChars_ba4f3 57 = .ok (.iinc 5 (-1), 3) := by decide +kernel
theorem dJ6_getChars_ba4f3_60 : decode cJ6_getChars_ba4f3 60 = .ok (.iload 5, 2) := by decide +kernel
theorem dJ6_getChars_ba4f3_62 : decode cJ6_getChars_ba4f3 62 = .ok (.getstatic 87, 3) := by decide +kernel
theorem dJ6_getChars_ba4f3_65 : decode cJ6_getChars_ba4f3 65 = .ok (.iload 4, 2) := by decide +kernel
theorem dJ6_getChars_ba4f3_67 : decode cJ6_getChars_ba4f3 67 = .ok (.baload, 1) := by decide +kernel
theorem dJ6_getChars_ba4f3_68 : decode cJ6_getChars_ba4f3 68 = .ok (.bastore, 1) := by decide +kernel
theorem dJ6_getChars_ba4f3_69 : decode cJ6_getChars_ba4f3 69 = .ok (.goto (-47), 3) := by decide +kernel
theorem dJ6_getChars_ba4f3_72 : decode cJ6_getChars_ba4f3 72 = .ok (.aload_n 2, 1) := by decide +kernel
theorem dJ6_getChars_ba4f3_73 : decode cJ6_getChars_ba4f3 73 = .ok (.iinc 5 (-1), 3) := by decide +kernel
theorem dJ6_getChars_ba4f3_76 : decode cJ6_getChars_ba4f3 76 = .ok (.iload 5, 2) := by decide +kernel
theorem dJ6_getChars_ba4f3_78 : decode cJ6_getChars_ba4f3 78 = .ok (.getstatic 83, 3) := by decide +kernel
theorem dJ6_getChars_ba4f3_81 : decode cJ6_getChars_ba4f3 81 = .ok (.iload_n 0, 1) := by decide +kernel
theorem dJ6_getChars_ba4f3_82 : decode cJ6_getChars_ba4f3 82 = .ok (.ineg, 1) := by decide +kernel
theorem dJ6_getChars_ba4f3_83 : decode cJ6_getChars_ba4f3 83 = .ok (.baload, 1) := by decide +kernel
theorem dJ6_getChars_ba4f3_84 : decode cJ6_getChars_ba4f3 84 = .ok (.bastore, 1) := by decide +kernel
theorem dJ6_getChars_ba4f3_85 : decode cJ6_getChars_ba4f3 85 = .ok (.iload_n 0, 1) := by decide +kernel
theorem dJ6_getChars_ba4f3_86 : decode cJ6_getChars_ba4f3 86 = .ok (.bipush (-9), 2) := by decide +kernel
theorem dJ6_getChars_ba4f3_88 : decode cJ6_getChars_ba4f3 88 = .ok (.if_icmp .ge 16, 3) := by decide +kernel
theorem dJ6_getChars_ba4f3_91 : decode cJ6_getChars_ba4f3 91 = .ok (.aload_n 2, 1) := by decide +kernel
theorem dJ6_getChars_ba4f3_92 : decode cJ6_getChars_ba4f3 92 = .ok (.iinc 5 (-1), 3) := by decide +kernel
theorem dJ6_getChars_ba4f3_95 : decode cJ6_getChars_ba4f3 95 = .ok (.iload 5, 2) := by decide +kernel
theorem dJ6_getChars_ba4f3_97 : decode cJ6_getChars_ba4f3 97 = .ok (.getstatic 87, 3) := by decide +kernel
theorem dJ6_getChars_ba4f3_100 : decode cJ6_getChars_ba4f3 100 = .ok (.iload_n 0, 1) := by decide +kernel
theorem dJ6_getChars_ba4f3_101 : decode cJ6_getChars_ba4f3 101 = .ok (.ineg, 1) := by decide +kernel
theorem dJ6_getChars_ba4f3_102 : decode cJ6_getChars_ba4f3 102 = .ok (.baload, 1) := by decide +kernel
theorem dJ6_getChars_ba4f3_103 : decode cJ6_getChars_ba4f3 103 = .ok (.bastore, 1) := by decide +kernel
theorem dJ6_getChars_ba4f3_104 : decode cJ6_getChars_ba4f3 104 = .ok (.iload 6, 2) := by decide +kernel
theorem dJ6_getChars_ba4f3_106 : decode cJ6_getChars_ba4f3 106 = .ok (.ifCond .eq 12, 3) := by decide +kernel
theorem dJ6_getChars_ba4f3_109 : decode cJ6_getChars_ba4f3 109 = .ok (.aload_n 2, 1) := by decide +kernel
theorem dJ6_getChars_ba4f3_110 : decode cJ6_getChars_ba4f3 110 = .ok (.iinc 5 (-1), 3) := by decide +kernel
theorem dJ6_getChars_ba4f3_113 : decode cJ6_getChars_ba4f3 113 = .ok (.iload 5, 2) := by decide +kernel
theorem dJ6_getChars_ba4f3_115 : decode cJ6_getChars_ba4f3 115 = .ok (.bipush 45, 2) := by decide +kernel
theorem dJ6_getChars_ba4f3_117 : decode cJ6_getChars_ba4f3 117 = .ok (.bastore, 1) := by decide +kernel
theorem dJ6_getChars_ba4f3_118 : decode cJ6_getChars_ba4f3 118 = .ok (.iload 5, 2) := by decide +kernel
theorem dJ6_getChars_ba4f3_120 : decode cJ6_getChars_ba4f3 120 = .ok (.ireturn, 1) := by decide +kernel
/-- java/lang/Integer.getChars(II[B)I -/
def M_J6_getChars_ba4f3 : xM := (yJ6_getChars_ba4f3, cJ6_getChars_ba4f3, 7, (some FieldType.int), Cond.code yJ6_getChars_ba4f3 cJ6_getChars_ba4f3 7 (some FieldType.int) :: xAll, { frames := 5, cells := 0, slots := 0, locals := 90 }, (0, 0), [])
theorem bw42 : (Jvm.Cond.fieldLink "java/lang/Integer" (83 : Nat) "java/lang/Integer" "DigitOnes" "[B") ∈ xAll := xin4 (List.mem_of_getElem? (i := 196) (by decide +kernel)) (by decide +kernel)
theorem g_J6_getChars_ba4f3_83 : Cond.fieldLink (mY M_J6_getChars_ba4f3).cls 83 "java/lang/Integer" "DigitOnes" "[B" ∈ mW M_J6_getChars_ba4f3 := List.mem_cons_of_mem _ (bw42)
theorem bw43 : (Jvm.Cond.fieldLink "java/lang/Integer" (87 : Nat) "java/lang/Integer" "DigitTens" "[B") ∈ xAll := xin4 (List.mem_of_getElem? (i := 198) (by decide +kernel)) (by decide +kernel)
theorem g_J6_getChars_ba4f3_87 : Cond.fieldLink (mY M_J6_getChars_ba4f3).cls 87 "java/lang/Integer" "DigitTens" "[B" ∈ mW M_J6_getChars_ba4f3 := List.mem_cons_of_mem _ (bw43)
theorem k_onZ {E : xE} : ∀ A U H, xC E A U H → va_Z "java/lang/Integer" "DigitOnes" "[B" (.ref (kE E 103)) A U H := fun A U H h => h.2.2.2.2.2.2.2.2.2.2.1.1
theorem k_onT {E : xE} : ∀ A U H, xC E A U H → va_T .byte (kE E 103) 100 (fun k => .int (nI (48 + k % 10))) A U H := fun A U H h => h.2.2.2.2.2.2.2.2.2.2.1.2
theorem k_teZ {E : xE} : ∀ A U H, xC E A U H → va_Z "java/lang/Integer" "DigitTens" "[B" (.ref (kE E 102)) A U H := fun A U H h => h.2.2.2.2.2.2.2.2.2.1.1
theorem k_teT {E : xE} : ∀ A U H, xC E A U H → va_T .byte (kE E 102) 100 (fun k => .int (nI (48 + k / 10))) A U H := fun A U H h => h.2.2.2.2.2.2.2.2.2.1.2
theorem dg_okB : ∀ k, k < 10 → okB (nI (48 + k)) := by
  have h : ∀ k, k < 10 → ((((nI (48 + k)) &&& 255).toUInt32 % 65536).toInt32 = nI (48 + k) ∧ narrow .char (.int (nI (48 + k))) = .int (nI (48 + k)) ∧ vp_nar .byte (nI (48 + k)).toInt8.toInt32 = nI (48 + k) ∧ vp_nar .byte (nI (48 + k)) = nI (48 + k) ∧ fits .byte (.int (nI (48 + k))) = true ∧ ¬ 255 < nI (48 + k)) := by decide +kernel
  exact h
theorem gc_rem : ∀ a, a < 1000 → (-nI a) / 100 = -nI (a / 100) ∧ -nI (a / 100) * 100 - -nI a = nI (a % 100) := by decide +kernel
theorem digs_g {a : Nat} (ha : a < 1000) : digs a = if a ≤ 9 then [nI (48 + a % 10)] else if a ≤ 99 then [nI (48 + a / 10), nI (48 + a % 10)] else [nI (48 + a / 100), nI (48 + a % 100 / 10), nI (48 + a % 100 % 10)] := by
  unfold digs
  split
  · rfl
  · split
    · rw [show a / 10 % 10 = a / 10 by omega]
    · rw [show a / 100 % 10 = a / 100 by omega, show a / 10 % 10 = a % 100 / 10 by omega, show a % 100 % 10 = a % 10 by omega]
theorem digs_okB {a : Nat} : ∀ x ∈ digs a, okB x := by
  intro x hx
  unfold digs at hx
  split at hx
  · simp only [List.mem_cons, List.not_mem_nil, or_false] at hx
    rw [hx]; exact dg_okB _ (by omega)
  · split at hx
    · simp only [List.mem_cons, List.not_mem_nil, or_false] at hx
      rcases hx with e | e <;> rw [e] <;> exact dg_okB _ (by omega)
    · simp only [List.mem_cons, List.not_mem_nil, or_false] at hx
      rcases hx with e | e | e <;> rw [e] <;> exact dg_okB _ (by omega)
set_option maxRecDepth 100000 in
set_option maxHeartbeats 4000000 in
theorem gc1 {E : xE} {Po : xPo} {w0 w : xW} {va cap a p : Nat} {f : Nat → Int32} {v1 v3 v4 : Option Value} (hv4 : ∀ v, v4 = some v → v.category = 1) (ha : a < 100) (hl : (digs a).length ≤ p) (hc : p ≤ cap) (hb : cap < 1000) (hf : sb_Fit f) (hp : ∀ (g : Nat → Int32) (r : Int32), (∀ j, j < p - (digs a).length ∨ p ≤ j → g j = f j) → (∀ j, j < (digs a).length → g (p - (digs a).length + j) = (digs a).getD j 0) → sb_Fit g → Po (.inl (some (.int r))) (xset w va (.inl (E.1.2 7, cap, .inl g)))) : WF M_J6_getChars_ba4f3 E Po w0 22 [some (.int (-nI a)), v1, some (.ref va), v3, v4, some (.int (nI p)), some (.int 0)] [] (xset w va (.inl (E.1.2 7, cap, .inl f))) 0 0 := by
  have hd : 1 ≤ p := Nat.le_trans digs_pos hl
  refine r_iload_n (q := 23) dJ6_getChars_ba4f3_22 rfl rfl rfl ?_
  refine r_bipush (q := 25) (v := (-100)) dJ6_getChars_ba4f3_23 (by decide) rfl ?_
  refine r_icmp_gt (q := 72) (q2 := 28) dJ6_getChars_ba4f3_25 (by decide) rfl (fun _ => ?_) (fun h9 => absurd (show -nI 100 < -nI a from (sb_nlt (by decide) (by omega)).mpr (by omega)) h9)
  refine r_aload_n (q := 73) dJ6_getChars_ba4f3_72 rfl rfl rfl ?_
  refine r_iinc (q := 76) dJ6_getChars_ba4f3_73 rfl (Nat.le_of_ble_eq_true rfl) (fun v _ hv => hv4 v (Option.some.inj hv)) rfl ?_
  rw [show Int32.ofInt (-1) = (-1 : Int32) from rfl, sb_m1 (p := p) (by omega)]
  refine r_iload (q := 78) dJ6_getChars_ba4f3_76 rfl rfl ?_
  refine r_gets (q := 81) dJ6_getChars_ba4f3_78 g_J6_getChars_ba4f3_83 k_onZ rfl ?_
  refine r_iload_n (q := 82) dJ6_getChars_ba4f3_81 rfl rfl rfl ?_
  refine r_ineg (q := 83) dJ6_getChars_ba4f3_82 rfl ?_
  rw [Int32.neg_neg]
  refine r_tb (q := 84) dJ6_getChars_ba4f3_83 k_onT (vp_in_nI (by omega) (by omega)) rfl ?_
  rw [nI_cl (by omega)]
  refine r_bastore (q := 85) dJ6_getChars_ba4f3_84 xset_s (vp_in_nI (by omega) (by omega)) rfl ?_
  rw [nI_cl (by omega), (dg_okB _ (by omega)).2.2.2.1, xset_xset]
  refine r_iload_n (q := 86) dJ6_getChars_ba4f3_85 rfl rfl rfl ?_
  refine r_bipush (q := 88) (v := (-9)) dJ6_getChars_ba4f3_86 (by decide) rfl ?_
  refine r_icmp_ge (q := 104) (q2 := 91) dJ6_getChars_ba4f3_88 (by decide) rfl (fun h88 => ?_) (fun h88 => ?_)
  · have h8 := (sb_nle (by decide) (by omega)).mp (show -nI 9 ≤ -nI a from h88)
    refine r_iload (q := 106) dJ6_getChars_ba4f3_104 rfl rfl ?_
    refine r_if_eq (q := 118) (q2 := 109) dJ6_getChars_ba4f3_106 (by decide) rfl (fun _ => ?_) (fun h9 => absurd rfl h9)
    refine r_iload (q := 120) dJ6_getChars_ba4f3_118 rfl rfl ?_
    first
      | refine r_iret dJ6_getChars_ba4f3_120 rfl (Nat.le_of_ble_eq_true rfl) (Nat.le_of_ble_eq_true rfl) (hp _ _ (fun j hj => ?_) (fun j hj => ?_) (sb_fitU (sb_fitU hf (dg_okB _ (by omega)).2.2.2.2.1) (dg_okB _ (by omega)).2.2.2.2.1))
        · rw [pk_un (by omega), pk_un (by omega)]
        · rw [hl2] at hj ⊢
          rw [digs_g (by omega), if_neg h8, if_pos (by omega)]
          rcases (show j = 0 ∨ j = 1 by omega) with rfl | rfl
          · rw [show p - 2 + 0 = p - 1 - 1 by omega, pk_us]; rfl
          · rw [show p - 2 + 1 = p - 1 by omega, pk_un (by omega), pk_us]; rfl
      | refine r_iret dJ6_getChars_ba4f3_120 rfl (Nat.le_of_ble_eq_true rfl) (Nat.le_of_ble_eq_true rfl) (hp _ _ (fun j hj => ?_) (fun j hj => ?_) (sb_fitU hf (dg_okB _ (by omega)).2.2.2.2.1))
        · rw [digs_l1 h8] at hj; rw [pk_un (by omega)]
        · rw [digs_l1 h8] at hj ⊢
          rw [digs_g (by omega), if_pos h8]
          obtain rfl : j = 0 := by omega
          rw [Nat.add_zero, pk_us]; rfl
  · have h8 : ¬ a ≤ 9 := fun q => h88 (show -nI 9 ≤ -nI a from (sb_nle (by decide) (by omega)).mpr q)
    have hl2 := digs_l2 (a := a) (by omega) (by omega)
    refine r_aload_n (q := 92) dJ6_getChars_ba4f3_91 rfl rfl rfl ?_
    refine r_iinc (q := 95) dJ6_getChars_ba4f3_92 rfl (Nat.le_of_ble_eq_true rfl) (fun v _ hv => hv4 v (Option.some.inj hv)) rfl ?_
    rw [show Int32.ofInt (-1) = (-1 : Int32) from rfl, sb_m1 (p := p - 1) (by omega)]
    refine r_iload (q := 97) dJ6_getChars_ba4f3_95 rfl rfl ?_
    refine r_gets (q := 100) dJ6_getChars_ba4f3_97 g_J6_getChars_ba4f3_87 k_teZ rfl ?_
    refine r_iload_n (q := 101) dJ6_getChars_ba4f3_100 rfl rfl rfl ?_
    refine r_ineg (q := 102) dJ6_getChars_ba4f3_101 rfl ?_
    rw [Int32.neg_neg]
    refine r_tb (q := 103) dJ6_getChars_ba4f3_102 k_teT (vp_in_nI (by omega) (by omega)) rfl ?_
    rw [nI_cl (by omega)]
    refine r_bastore (q := 104) dJ6_getChars_ba4f3_103 xset_s (vp_in_nI (by omega) (by omega)) rfl ?_
    rw [nI_cl (by omega), (dg_okB _ (by omega)).2.2.2.1, xset_xset]
    refine r_iload (q := 106) dJ6_getChars_ba4f3_104 rfl rfl ?_
    refine r_if_eq (q := 118) (q2 := 109) dJ6_getChars_ba4f3_106 (by decide) rfl (fun _ => ?_) (fun h9 => absurd rfl h9)
    refine r_iload (q := 120) dJ6_getChars_ba4f3_118 rfl rfl ?_
    first
      | refine r_iret dJ6_getChars_ba4f3_120 rfl (Nat.le_of_ble_eq_true rfl) (Nat.le_of_ble_eq_true rfl) (hp _ _ (fun j hj => ?_) (fun j hj => ?_) (sb_fitU (sb_fitU hf (dg_okB _ (by omega)).2.2.2.2.1) (dg_okB _ (by omega)).2.2.2.2.1))
        · rw [pk_un (by omega), pk_un (by omega)]
        · rw [hl2] at hj ⊢
          rw [digs_g (by omega), if_neg h8, if_pos (by omega)]
          rcases (show j = 0 ∨ j = 1 by omega) with rfl | rfl
          · rw [show p - 2 + 0 = p - 1 - 1 by omega, pk_us]; rfl
          · rw [show p - 2 + 1 = p - 1 by omega, pk_un (by omega), pk_us]; rfl
      | refine r_iret dJ6_getChars_ba4f3_120 rfl (Nat.le_of_ble_eq_true rfl) (Nat.le_of_ble_eq_true rfl) (hp _ _ (fun j hj => ?_) (fun j hj => ?_) (sb_fitU hf (dg_okB _ (by omega)).2.2.2.2.1))
        · rw [digs_l1 h8] at hj; rw [pk_un (by omega)]
        · rw [digs_l1 h8] at hj ⊢
          rw [digs_g (by omega), if_pos h8]
          obtain rfl : j = 0 := by omega
          rw [Nat.add_zero, pk_us]; rfl
set_option maxRecDepth 100000 in
set_option maxHeartbeats 4000000 in
theorem gc2 {E : xE} {Po : xPo} {w0 w : xW} {va cap a p : Nat} {f : Nat → Int32} {v1 v3 v4 : Option Value} (h1 : 100 ≤ a) (ha : a < 1000) (hl : (digs a).length ≤ p) (hc : p ≤ cap) (hb : cap < 1000) (hf : sb_Fit f) (hp : ∀ (g : Nat → Int32) (r : Int32), (∀ j, j < p - (digs a).length ∨ p ≤ j → g j = f j) → (∀ j, j < (digs a).length → g (p - (digs a).length + j) = (digs a).getD j 0) → sb_Fit g → Po (.inl (some (.int r))) (xset w va (.inl (E.1.2 7, cap, .inl g)))) : WF M_J6_getChars_ba4f3 E Po w0 22 [some (.int (-nI a)), v1, some (.ref va), v3, v4, some (.int (nI p)), some (.int 0)] [] (xset w va (.inl (E.1.2 7, cap, .inl f))) 0 0 := by
  have hl3 := digs_l3 h1
  rw [hl3] at hl
  obtain ⟨q1, q2⟩ := gc_rem a ha
  refine r_iload_n (q := 23) dJ6_getChars_ba4f3_22 rfl rfl rfl ?_
  refine r_bipush (q := 25) (v := (-100)) dJ6_getChars_ba4f3_23 (by decide) rfl ?_
  refine r_icmp_gt (q := 72) (q2 := 28) dJ6_getChars_ba4f3_25 (by decide) rfl (fun h9 => absurd h9 (show ¬ -nI 100 < -nI a from fun q => by have := (sb_nlt (by decide) (by omega)).mp q; omega)) (fun _ => ?_)
  refine r_iload_n (q := 29) dJ6_getChars_ba4f3_28 rfl rfl rfl ?_
  refine r_bipush (q := 31) (v := 100) dJ6_getChars_ba4f3_29 (by decide) rfl ?_
  refine r_idiv (q := 32) dJ6_getChars_ba4f3_31 (by decide) rfl ?_
  rw [q1]
  refine r_istore_n (q := 33) dJ6_getChars_ba4f3_32 rfl (Nat.le_of_ble_eq_true rfl) (xone_of rfl) rfl ?_
  refine r_iload_n (q := 34) dJ6_getChars_ba4f3_33 rfl rfl rfl ?_
  refine r_bipush (q := 36) (v := 100) dJ6_getChars_ba4f3_34 (by decide) rfl ?_
  refine r_imul (q := 37) dJ6_getChars_ba4f3_36 rfl ?_
  refine r_iload_n (q := 38) dJ6_getChars_ba4f3_37 rfl rfl rfl ?_
  refine r_isub (q := 39) dJ6_getChars_ba4f3_38 rfl ?_
  rw [q2]
  refine r_istore (q := 41) dJ6_getChars_ba4f3_39 (Nat.le_of_ble_eq_true rfl) (xone_of rfl) rfl ?_
  refine r_iload_n (q := 42) dJ6_getChars_ba4f3_41 rfl rfl rfl ?_
  refine r_istore_n (q := 43) dJ6_getChars_ba4f3_42 rfl (Nat.le_of_ble_eq_true rfl) (xone_of rfl) rfl ?_
  refine r_aload_n (q := 44) dJ6_getChars_ba4f3_43 rfl rfl rfl ?_
  refine r_iinc (q := 47) dJ6_getChars_ba4f3_44 rfl (Nat.le_of_ble_eq_true rfl) (xone_of rfl) rfl ?_
  rw [show Int32.ofInt (-1) = (-1 : Int32) from rfl, sb_m1 (p := p) (by omega)]
  refine r_iload (q := 49) dJ6_getChars_ba4f3_47 rfl rfl ?_
  refine r_gets (q := 52) dJ6_getChars_ba4f3_49 g_J6_getChars_ba4f3_83 k_onZ rfl ?_
  refine r_iload (q := 54) dJ6_getChars_ba4f3_52 rfl rfl ?_
  refine r_tb (q := 55) dJ6_getChars_ba4f3_54 k_onT (vp_in_nI (by omega) (by omega)) rfl ?_
  rw [nI_cl (by omega)]
  refine r_bastore (q := 56) dJ6_getChars_ba4f3_55 xset_s (vp_in_nI (by omega) (by omega)) rfl ?_
  rw [nI_cl (by omega), (dg_okB _ (by omega)).2.2.2.1, xset_xset]
  refine r_aload_n (q := 57) dJ6_getChars_ba4f3_56 rfl rfl rfl ?_
  refine r_iinc (q := 60) dJ6_getChars_ba4f3_57 rfl (Nat.le_of_ble_eq_true rfl) (xone_of rfl) rfl ?_
  rw [show Int32.ofInt (-1) = (-1 : Int32) from rfl, sb_m1 (p := p - 1) (by omega)]
  refine r_iload (q := 62) dJ6_getChars_ba4f3_60 rfl rfl ?_
  refine r_gets (q := 65) dJ6_getChars_ba4f3_62 g_J6_getChars_ba4f3_87 k_teZ rfl ?_
  refine r_iload (q := 67) dJ6_getChars_ba4f3_65 rfl rfl ?_
  refine r_tb (q := 68) dJ6_getChars_ba4f3_67 k_teT (vp_in_nI (by omega) (by omega)) rfl ?_
  rw [nI_cl (by omega)]
  refine r_bastore (q := 69) dJ6_getChars_ba4f3_68 xset_s (vp_in_nI (by omega) (by omega)) rfl ?_
  rw [nI_cl (by omega), (dg_okB _ (by omega)).2.2.2.1, xset_xset]
  refine r_goto (q := 22) dJ6_getChars_ba4f3_69 (by decide) ?_
  have hl1 := digs_l1 (a := a / 100) (by omega)
  refine gc1 (a := a / 100) (p := p - 1 - 1) (fun v hv => by cases hv; rfl) (by omega) (by omega) (by omega) hb (sb_fitU (sb_fitU hf (dg_okB _ (by omega)).2.2.2.2.1) (dg_okB _ (by omega)).2.2.2.2.1) (fun g r g1 g2 g3 => ?_)
  rw [hl1] at g1 g2
  refine hp g r (fun j hj => ?_) (fun j hj => ?_) g3
  · rw [hl3] at hj
    rw [g1 j (by omega), pk_un (by omega), pk_un (by omega)]
  · rw [hl3] at hj ⊢
    rw [digs_g ha, if_neg (by omega), if_neg (by omega)]
    rcases (show j = 0 ∨ j = 1 ∨ j = 2 by omega) with rfl | rfl | rfl
    · have h9 := g2 0 (by decide)
      rw [digs_g (by omega), if_pos (by omega)] at h9
      rw [show p - 3 + 0 = p - 1 - 1 - 1 + 0 by omega, h9, show a / 100 % 10 = a / 100 by omega]; rfl
    · rw [show p - 3 + 1 = p - 1 - 1 by omega, g1 _ (by omega), pk_us]; rfl
    · rw [show p - 3 + 2 = p - 1 by omega, g1 _ (by omega), pk_un (by omega), pk_us]; rfl
set_option maxRecDepth 100000 in
set_option maxHeartbeats 4000000 in
theorem ct_J6_getChars_ba4f3 {E : xE} {Po : xPo} {w : xW} {va cap a p : Nat} {f : Nat → Int32} (hw : w.1 va = some (.inl (E.1.2 7, cap, .inl f))) (ha : a < 1000) (hl : (digs a).length ≤ p) (hc : p ≤ cap) (hb : cap < 1000) (hf : sb_Fit f) (hp : ∀ (g : Nat → Int32) (r : Int32), (∀ j, j < p - (digs a).length ∨ p ≤ j → g j = f j) → (∀ j, j < (digs a).length → g (p - (digs a).length + j) = (digs a).getD j 0) → sb_Fit g → Po (.inl (some (.int r))) (xset w va (.inl (E.1.2 7, cap, .inl g)))) : Ct M_J6_getChars_ba4f3 E [.int (nI a), .int (nI p), .ref va] w Po := by
  refine Ct.of (ws2 := xAll) (L := [some (.int (nI a)), some (.int (nI p)), some (.ref va), none, none, none, none]) (by decide +kernel) rfl rfl (List.forall_mem_cons.mpr ⟨rfl, List.forall_mem_cons.mpr ⟨rfl, List.forall_mem_cons.mpr ⟨rfl, fun _ h => absurd h List.not_mem_nil⟩⟩⟩) (Nat.le_of_ble_eq_true rfl) rfl ?_
  refine r_iload_n (q := 1) dJ6_getChars_ba4f3_0 rfl rfl rfl ?_
  refine r_istore (q := 3) dJ6_getChars_ba4f3_1 (Nat.le_of_ble_eq_true rfl) (xone_of rfl) rfl ?_
  refine r_iload_n (q := 4) dJ6_getChars_ba4f3_3 rfl rfl rfl ?_
  refine r_if_ge (q := 11) (q2 := 7) dJ6_getChars_ba4f3_4 (by decide) rfl (fun _ => ?_) (fun h9 => absurd (nI_pos' (by omega)) h9)
  refine r_iconst (q := 12) (v := 0) dJ6_getChars_ba4f3_11 rfl rfl ?_
  refine r_istore (q := 14) dJ6_getChars_ba4f3_12 (Nat.le_of_ble_eq_true rfl) (xone_of rfl) rfl ?_
  refine r_iload (q := 16) dJ6_getChars_ba4f3_14 rfl rfl ?_
  refine r_if_ne (q := 22) (q2 := 19) dJ6_getChars_ba4f3_16 (by decide) rfl (fun h9 => absurd rfl h9) (fun _ => ?_)
  refine r_iload_n (q := 20) dJ6_getChars_ba4f3_19 rfl rfl rfl ?_
  refine r_ineg (q := 21) dJ6_getChars_ba4f3_20 rfl ?_
  refine r_istore_n (q := 22) dJ6_getChars_ba4f3_21 rfl (Nat.le_of_ble_eq_true rfl) (xone_of rfl) rfl ?_
  refine WF.cw (xset_id hw).symm ?_
  rcases Nat.lt_or_ge a 100 with h | h
  · exact gc1 (fun v hv => nomatch hv) h hl hc hb hf hp
  · exact gc2 h ha hl hc hb hf hp
theorem dJ5_append_c97b9_0 : decode cJ5_append_c97b9 0 = .ok (.aload_n 0, 1) := by decide +kernel
theorem dJ5_append_c97b9_1 : decode cJ5_append_c97b9 1 = .ok (.getfield 79, 3) := by decide +kernel
theorem dJ5_append_c97b9_4 : decode cJ5_append_c97b9 4 = .ok (.istore_n 2, 1) := by decide +kernel
theorem dJ5_append_c97b9_5 : decode cJ5_append_c97b9 5 = .ok (.iload_n 2, 1) := by decide +kernel
theorem dJ5_append_c97b9_6 : decode cJ5_append_c97b9 6 = .ok (.iload_n 1, 1) := by decide +kernel
theorem dJ5_append_c97b9_7 : decode cJ5_append_c97b9 7 = .ok (.invokestatic 245, 3) := by decide +kernel
theorem dJ5_append_c97b9_10 : decode cJ5_append_c97b9 10 = .ok (.iadd, 1) := by decide +kernel
theorem dJ5_append_c97b9_11 : decode cJ5_append_c97b9 11 = .ok (.istore_n 3, 1) := by decide +kernel
theorem dJ5_append_c97b9_12 : decode cJ5_append_c97b9 12 = .ok (.aload_n 0, 1) := by decide +kernel
theorem dJ5_append_c97b9_13 : decode cJ5_append_c97b9 13 = .ok (.iload_n 3, 1) := by decide +kernel
theorem dJ5_append_c97b9_14 : decode cJ5_append_c97b9 14 = .ok (.invokevirtual 100, 3) := by decide +kernel
theorem dJ5_append_c97b9_17 : decode cJ5_append_c97b9 17 = .ok (.aload_n 0, 1) := by decide +kernel
theorem dJ5_append_c97b9_18 : decode cJ5_append_c97b9 18 = .ok (.invokevirtual 83, 3) := by decide +kernel
theorem dJ5_append_c97b9_21 : decode cJ5_append_c97b9 21 = .ok (.ifCond .eq 16, 3) := by decide +kernel
theorem dJ5_append_c97b9_24 : decode cJ5_append_c97b9 24 = .ok (.iload_n 1, 1) := by decide +kernel
theorem dJ5_append_c97b9_25 : decode cJ5_append_c97b9 25 = .ok (.iload_n 3, 1) := by decide +kernel
theorem dJ5_append_c97b9_26 : decode cJ5_append_c97b9 26 = .ok (.aload_n 0, 1) := by decide +kernel
theorem dJ5_append_c97b9_27 : decode cJ5_append_c97b9 27 = .ok (.getfield 15, 3) := by decide +kernel
theorem dJ5_append_c97b9_30 : decode cJ5_append_c97b9 30 = .ok (.invokestatic 248, 3) := by decide +kernel
theorem dJ5_append_c97b9_33 : decode cJ5_append_c97b9 33 = .ok (.pop, 1) := by decide +kernel
theorem dJ5_append_c97b9_34 : decode cJ5_append_c97b9 34 = .ok (.goto 14, 3) := by decide +kernel
theorem dJ5_append_c97b9_37 : decode cJ5_append_c97b9 37 = .ok (.iload_n 1, 1) := by decide +kernel
theorem dJ5_append_c97b9_38 : decode cJ5_append_c97b9 38 = .ok (.iload_n 2, 1) := by decide +kernel
theorem dJ5_append_c97b9_39 : decode cJ5_append_c97b9 39 = .ok (.iload_n 3, 1) := by decide +kernel
theorem dJ5_append_c97b9_40 : decode cJ5_append_c97b9 40 = .ok (.aload_n 0, 1) := by decide +kernel
theorem dJ5_append_c97b9_41 : decode cJ5_append_c97b9 41 = .ok (.getfield 15, 3) := by decide +kernel
theorem dJ5_append_c97b9_44 : decode cJ5_append_c97b9 44 = .ok (.invokestatic 251, 3) := by decide +kernel
theorem dJ5_append_c97b9_47 : decode cJ5_append_c97b9 47 = .ok (.pop, 1) := by decide +kernel
theorem dJ5_append_c97b9_48 : decode cJ5_append_c97b9 48 = .ok (.aload_n 0, 1) := by decide +kernel
theorem dJ5_append_c97b9_49 : decode cJ5_append_c97b9 49 = .ok (.iload_n 3, 1) := by decide +kernel
theorem dJ5_append_c97b9_50 : decode cJ5_append_c97b9 50 = .ok (.putfield 79, 3) := by decide +kernel
theorem dJ5_append_c97b9_53 : decode cJ5_append_c97b9 53 = .ok (.aload_n 0, 1) := by decide +kernel
theorem dJ5_append_c97b9_54 : decode cJ5_append_c97b9 54 = .ok (.areturn, 1) := by decide +kernel
/-- java/lang/AbstractStringBuilder.append(I)Ljava/lang/AbstractStringBuilder; -/
def M_J5_append_c97b9 : xM := (yJ5_append_c97b9, cJ5_append_c97b9, 4, (some (FieldType.object "java/lang/AbstractStringBuilder")), Cond.code yJ5_append_c97b9 cJ5_append_c97b9 4 (some (FieldType.object "java/lang/AbstractStringBuilder")) :: (xPv ++ xAll), { frames := 8, cells := 1, slots := 122, locals := 160 }, (1, 122), [])
theorem f_J5_append_c97b9_79 : xFl2 M_J5_append_c97b9 79 1 3 (tyJ4 3) := ⟨RJ4, TJ4, 4, tyJ4, rfl, by decide, fun w h => mP (inJ4 w h), mP (bw2), tyJ4_ok, nmJ4, rfl, rfl⟩
theorem bw44 : (Jvm.Cond.code ({ cls := "java/lang/Integer", name := "stringSize", desc := "(I)I" } : Jvm.MethodName) prog_26_method_13_code (4 : Nat) (Option.some Jvm.ClassFile.FieldType.int)) ∈ xAll := xin4 (List.mem_of_getElem? (i := 156) (by decide +kernel)) (by decide +kernel)
theorem bw45 : (Jvm.Cond.initialized "java/lang/Integer") ∈ xAll := xin1 (List.mem_of_getElem? (i := 24) (by decide +kernel)) (by decide +kernel)
theorem bw46 : (Jvm.Cond.methodLink "java/lang/AbstractStringBuilder" (245 : Nat) ({ cls := "java/lang/Integer", name := "stringSize", desc := "(I)I" } : Jvm.MethodName)) ∈ xAll := xin4 (List.mem_of_getElem? (i := 154) (by decide +kernel)) (by decide +kernel)
theorem bw47 : (Jvm.Cond.static ({ cls := "java/lang/Integer", name := "stringSize", desc := "(I)I" } : Jvm.MethodName)) ∈ xAll := xin4 (List.mem_of_getElem? (i := 155) (by decide +kernel)) (by decide +kernel)
theorem s_J5_append_c97b9_245 : xSs M_J5_append_c97b9 M_J6_stringSize_0f7a4 245 1 := fun s args hts => ⟨callB_of 1 (htsP hts) (xGood bw44) rfl rfl rfl (hts _ (mP (bw45))) (hts _ (mP (bw46))) (by decide +kernel) ⟨Nat.le_of_ble_eq_true rfl, Nat.le_of_ble_eq_true rfl⟩, (hts _ (mP (bw47)))⟩
theorem s_J5_append_c97b9_100 : xSpriv M_J5_append_c97b9 M_J5_ensureCapacityInternal_d00df 100 1 := fun s args hts => ⟨liftB (callB_of 1 (htsP hts) (xGood bw27) rfl rfl rfl (hts _ (mP (bw19))) (hts _ (mP (bw28))) (by decide +kernel) ⟨Nat.le_of_ble_eq_true rfl, Nat.le_of_ble_eq_true rfl⟩) (htsQ hts), (hts _ (mP (bw29))), htsQ hts _ (List.mem_of_getElem? (i := 0) rfl), "java/lang/StringBuilder", ({ cls := "java/lang/AbstractStringBuilder", name := "isLatin1", desc := "()Z" } : Jvm.MethodName), (hts _ (mP (bw22))), rfl⟩
theorem s_J5_append_c97b9_83 : xSvC M_J5_append_c97b9 M_J5_isLatin1_aae02 "java/lang/StringBuilder" 83 0 := fun s args hts => ⟨callB_of 0 (htsP hts) (xGood bw30) rfl rfl rfl (hts _ (mP (bw19))) (hts _ (mP (bw31))) (by decide +kernel) ⟨Nat.le_of_ble_eq_true rfl, Nat.le_of_ble_eq_true rfl⟩, (hts _ (mP (bw32))), (hts _ (mP (bw22)))⟩
theorem f_J5_append_c97b9_15 : xFl2 M_J5_append_c97b9 15 1 0 (tyJ4 0) := ⟨RJ4, TJ4, 4, tyJ4, rfl, by decide, fun w h => mP (inJ4 w h), mP (bw8), tyJ4_ok, nmJ4, rfl, rfl⟩
theorem bw48 : (Jvm.Cond.code ({ cls := "java/lang/Integer", name := "getChars", desc := "(II[B)I" } : Jvm.MethodName) prog_26_method_12_code (7 : Nat) (Option.some Jvm.ClassFile.FieldType.int)) ∈ xAll := xin4 (List.mem_of_getElem? (i := 195) (by decide +kernel)) (by decide +kernel)
theorem bw49 : (Jvm.Cond.methodLink "java/lang/AbstractStringBuilder" (248 : Nat) ({ cls := "java/lang/Integer", name := "getChars", desc := "(II[B)I" } : Jvm.MethodName)) ∈ xAll := xin4 (List.mem_of_getElem? (i := 193) (by decide +kernel)) (by decide +kernel)
theorem bw50 : (Jvm.Cond.static ({ cls := "java/lang/Integer", name := "getChars", desc := "(II[B)I" } : Jvm.MethodName)) ∈ xAll := xin4 (List.mem_of_getElem? (i := 194) (by decide +kernel)) (by decide +kernel)
theorem s_J5_append_c97b9_248 : xSs M_J5_append_c97b9 M_J6_getChars_ba4f3 248 3 := fun s args hts => ⟨callB_of 3 (htsP hts) (xGood bw48) rfl rfl rfl (hts _ (mP (bw45))) (hts _ (mP (bw49))) (by decide +kernel) ⟨Nat.le_of_ble_eq_true rfl, Nat.le_of_ble_eq_true rfl⟩, (hts _ (mP (bw50)))⟩
set_option maxRecDepth 100000 in
set_option maxHeartbeats 4000000 in
theorem ct_J5_append_c97b9 {E : xE} {Po : xPo} {w : xW} {b : Nat} {va cap : Nat} {ml ct : Int32} {f : Nat → Int32} (H : HB E w b (va, cap, ml, ct, f)) {l : List Int32} (hL : hasL (va, cap, ml, ct, f) l) {a : Nat} (ha : a < 1000) (hl : l.length + (digs a).length ≤ 60) (hp : ∀ (u : xW) (B2 : xBd), HB E u b B2 → hasL B2 (l ++ digs a) → FB w u b (va, cap, ml, ct, f) B2 → Po (.inl (some (.ref b))) u) : Ct M_J5_append_c97b9 E [.ref b, .int (nI a)] w Po := by
  refine Ct.of (ws2 := xPv ++ xAll) (L := [some (.ref b), some (.int (nI a)), none, none]) (by decide +kernel) rfl rfl (List.forall_mem_cons.mpr ⟨rfl, List.forall_mem_cons.mpr ⟨rfl, fun _ h => absurd h List.not_mem_nil⟩⟩) (Nat.le_of_ble_eq_true rfl) rfl ?_
  obtain rfl : ct = nI l.length := hL.1
  refine r_aload_n (q := 1) dJ5_append_c97b9_0 rfl rfl rfl ?_
  refine r_getfS (q := 4) dJ5_append_c97b9_1 f_J5_append_c97b9_79 H.1 rfl rfl ?_
  refine r_istore_n (q := 5) dJ5_append_c97b9_4 rfl (Nat.le_of_ble_eq_true rfl) (xone_of rfl) rfl ?_
  refine r_iload_n (q := 6) dJ5_append_c97b9_5 rfl rfl rfl ?_
  refine r_iload_n (q := 7) dJ5_append_c97b9_6 rfl rfl rfl ?_
  refine r_callS (q := 10) (As := [_]) dJ5_append_c97b9_7 s_J5_append_c97b9_245 rfl rfl (Nat.le_of_ble_eq_true rfl) rfl rfl rfl (Nat.le_of_ble_eq_true rfl) (Nat.le_of_ble_eq_true rfl) ⟨(Nat.le_of_ble_eq_true rfl), (Nat.le_of_ble_eq_true rfl)⟩ rfl ?_
  refine ct_J6_stringSize_0f7a4 ha ?_
  show WF _ E Po _ _ _ _ _ _ _
  refine r_iadd (q := 11) dJ5_append_c97b9_10 rfl ?_
  rw [nI_a2]
  refine r_istore_n (q := 12) dJ5_append_c97b9_11 rfl (Nat.le_of_ble_eq_true rfl) (xone_of rfl) rfl ?_
  refine r_aload_n (q := 13) dJ5_append_c97b9_12 rfl rfl rfl ?_
  refine r_iload_n (q := 14) dJ5_append_c97b9_13 rfl rfl rfl ?_
  refine r_callP (q := 17) (ci := 1) (As := [_]) dJ5_append_c97b9_14 s_J5_append_c97b9_100 H.1 rfl rfl (Nat.le_of_ble_eq_true rfl) rfl rfl rfl (Nat.le_of_ble_eq_true rfl) (Nat.le_of_ble_eq_true rfl) ⟨(Nat.le_of_ble_eq_true rfl), (Nat.le_of_ble_eq_true rfl)⟩ rfl ?_
  refine ct_J5_ensureCapacityInternal_d00df H hL (by omega) (fun u B2 H2 L2 F2 c2 => ?_)
  show WF _ E Po _ _ _ _ _ _ _
  obtain ⟨va2, cap2, ml2, ct2, f2⟩ := B2
  obtain rfl : ct2 = nI l.length := L2.1
  have hcap2 : cap2 ≤ 125 := L2.2.2.1.2
  have hbva : b < va2 := H2.2.2.1
  change _ ≤ cap2 at c2
  refine r_aload_n (q := 18) dJ5_append_c97b9_17 rfl rfl rfl ?_
  refine r_callVC (q := 21) (ci := 1) (As := []) dJ5_append_c97b9_18 s_J5_append_c97b9_83 H2.1 rfl rfl rfl (Nat.le_of_ble_eq_true rfl) rfl rfl rfl (Nat.le_of_ble_eq_true rfl) (Nat.le_of_ble_eq_true rfl) ⟨(Nat.le_of_ble_eq_true rfl), (Nat.le_of_ble_eq_true rfl)⟩ rfl ?_
  refine ct_J5_isLatin1_aae02 H2 ?_
  show WF _ E Po _ _ _ _ _ _ _
  refine r_if_eq (q := 37) (q2 := 24) dJ5_append_c97b9_21 (by decide) rfl (fun h9 => absurd h9 (by decide)) (fun _ => ?_)
  refine r_iload_n (q := 25) dJ5_append_c97b9_24 rfl rfl rfl ?_
  refine r_iload_n (q := 26) dJ5_append_c97b9_25 rfl rfl rfl ?_
  refine r_aload_n (q := 27) dJ5_append_c97b9_26 rfl rfl rfl ?_
  refine r_getfS (q := 30) dJ5_append_c97b9_27 f_J5_append_c97b9_15 H2.1 rfl rfl ?_
  refine r_callS (q := 33) (As := [_, _, _]) dJ5_append_c97b9_30 s_J5_append_c97b9_248 rfl rfl (Nat.le_of_ble_eq_true rfl) rfl rfl rfl (Nat.le_of_ble_eq_true rfl) (Nat.le_of_ble_eq_true rfl) ⟨(Nat.le_of_ble_eq_true rfl), (Nat.le_of_ble_eq_true rfl)⟩ rfl ?_
  refine ct_J6_getChars_ba4f3 H2.2.1 ha (by omega) c2 (by show cap2 < 1000; omega) L2.2.2.2.2.2 (fun g r g1 g2 g3 => ?_)
  show WF _ E Po _ _ _ _ _ _ _
  rw [Nat.add_sub_cancel] at g1 g2
  refine r_pop (q := 34) dJ5_append_c97b9_33 rfl rfl ?_
  refine r_goto (q := 48) dJ5_append_c97b9_34 (by decide) ?_
  refine r_aload_n (q := 49) dJ5_append_c97b9_48 rfl rfl rfl ?_
  refine r_iload_n (q := 50) dJ5_append_c97b9_49 rfl rfl rfl ?_
  refine r_putfS (q := 53) dJ5_append_c97b9_50 f_J5_append_c97b9_79 ((xset_o (Nat.ne_of_lt hbva)).trans H2.1) rfl rfl (Nat.le_of_ble_eq_true rfl) rfl ?_
  refine r_aload_n (q := 54) dJ5_append_c97b9_53 rfl rfl rfl ?_
  refine r_aret dJ5_append_c97b9_54 rfl (Or.inr ⟨_, rfl⟩) (Nat.le_of_ble_eq_true rfl) (Nat.le_of_ble_eq_true rfl) ?_
  exact hp _ (va2, cap2, ml2, nI (l.length + (digs a).length), g) (HB.put H2) (hasL.app L2 c2 (fun j hj => g1 j (Or.inl hj)) g2 digs_okB g3) F2.put
theorem dJ4_append_bf812_0 : decode cJ4_append_bf812 0 = .ok (.aload_n 0, 1) := by decide +kernel
theorem dJ4_append_bf812_1 : decode cJ4_append_bf812 1 = .ok (.iload_n 1, 1) := by decide +kernel
theorem dJ4_append_bf812_2 : decode cJ4_append_bf812 2 = .ok (.invokespecial 53, 3) := by decide +kernel
theorem dJ4_append_bf812_5 : decode cJ4_append_bf812 5 = .ok (.pop, 1) := by decide +kernel
theorem dJ4_append_bf812_6 : decode cJ4_append_bf812 6 = .ok (.aload_n 0, 1) := by decide +kernel
theorem dJ4_append_bf812_7 : decode cJ4_append_bf812 7 = .ok (.areturn, 1) := by decide +kernel
/-- java/lang/StringBuilder.append(I)Ljava/lang/StringBuilder; -/
def M_J4_append_bf812 : xM := (yJ4_append_bf812, cJ4_append_bf812, 2, (some (FieldType.object "java/lang/StringBuilder")), Cond.code yJ4_append_bf812 cJ4_append_bf812 2 (some (FieldType.object "java/lang/StringBuilder")) :: (xPv ++ xAll), { frames := 9, cells := 1, slots := 122, locals := 183 }, (1, 122), [])
theorem bw51 : (Jvm.Cond.code ({ cls := "java/lang/AbstractStringBuilder", name := "append", desc := "(I)Ljava/lang/AbstractStringBuilder;" } : Jvm.MethodName) prog_14_method_32_code (4 : Nat) (Option.some (Jvm.ClassFile.FieldType.object "java/lang/AbstractStringBuilder"))) ∈ xAll := xin4 (List.mem_of_getElem? (i := 153) (by decide +kernel)) (by decide +kernel)
theorem bw52 : (Jvm.Cond.methodLink "java/lang/StringBuilder" (53 : Nat) ({ cls := "java/lang/AbstractStringBuilder", name := "append", desc := "(I)Ljava/lang/AbstractStringBuilder;" } : Jvm.MethodName)) ∈ xAll := xin4 (List.mem_of_getElem? (i := 151) (by decide +kernel)) (by decide +kernel)
theorem bw53 : (Jvm.Cond.sameMethod "java/lang/AbstractStringBuilder" "java/lang/AbstractStringBuilder" "append" "(I)Ljava/lang/AbstractStringBuilder;") ∈ xAll := xin6 (List.mem_of_getElem? (i := 203) (by decide +kernel)) (by decide +kernel)
theorem bw54 : (Jvm.Cond.instanceMethod ({ cls := "java/lang/AbstractStringBuilder", name := "append", desc := "(I)Ljava/lang/AbstractStringBuilder;" } : Jvm.MethodName)) ∈ xAll := xin4 (List.mem_of_getElem? (i := 152) (by decide +kernel)) (by decide +kernel)
theorem s_J4_append_bf812_53 : xSuper M_J4_append_bf812 M_J5_append_c97b9 53 1 := fun s args hts => liftS (va_cwSU 1 (htsP hts) (xGSU bw52 bw53 bw40 bw54 bw19 bw51) rfl rfl rfl (by decide +kernel) ⟨Nat.le_of_ble_eq_true rfl, Nat.le_of_ble_eq_true rfl⟩) (htsQ hts)
set_option maxRecDepth 100000 in
set_option maxHeartbeats 4000000 in
theorem ct_J4_append_bf812 {E : xE} {Po : xPo} {w : xW} {b : Nat} {va cap : Nat} {ml ct : Int32} {f : Nat → Int32} (H : HB E w b (va, cap, ml, ct, f)) {l : List Int32} (hL : hasL (va, cap, ml, ct, f) l) {a : Nat} (ha : a < 1000) (hl : l.length + (digs a).length ≤ 60) (hp : ∀ (u : xW) (B2 : xBd), HB E u b B2 → hasL B2 (l ++ digs a) → FB w u b (va, cap, ml, ct, f) B2 → Po (.inl (some (.ref b))) u) : Ct M_J4_append_bf812 E [.ref b, .int (nI a)] w Po := by
  refine Ct.of (ws2 := xPv ++ xAll) (L := [some (.ref b), some (.int (nI a))]) (by decide +kernel) rfl rfl (List.forall_mem_cons.mpr ⟨rfl, List.forall_mem_cons.mpr ⟨rfl, fun _ h => absurd h List.not_mem_nil⟩⟩) (Nat.le_of_ble_eq_true rfl) rfl ?_
  refine r_aload_n (q := 1) dJ4_append_bf812_0 rfl rfl rfl ?_
  refine r_iload_n (q := 2) dJ4_append_bf812_1 rfl rfl rfl ?_
  refine r_callSp (q := 5) (ci := 1) (As := [_]) dJ4_append_bf812_2 s_J4_append_bf812_53 H.1 rfl (Nat.le_of_ble_eq_true rfl) rfl rfl rfl ⟨(Nat.le_of_ble_eq_true rfl), (Nat.le_of_ble_eq_true rfl)⟩ rfl ?_
  refine ct_J5_append_c97b9 H hL ha hl (fun u B2 H2 L2 F2 => ?_)
  show WF _ E Po _ _ _ _ _ _ _
  refine r_pop (q := 6) dJ4_append_bf812_5 rfl rfl ?_
  refine r_aload_n (q := 7) dJ4_append_bf812_6 rfl rfl rfl ?_
  refine r_aret dJ4_append_bf812_7 rfl (Or.inr ⟨_, rfl⟩) (Nat.le_of_ble_eq_true rfl) (Nat.le_of_ble_eq_true rfl) ?_
  exact hp u B2 H2 L2 F2
theorem k_okB {i : Nat} (hi : i < 54) : ∀ x ∈ byts i, okB x := by
  have h : ∀ i, i < 54 → ∀ x ∈ xByt.getD i [], ((x &&& 255).toUInt32 % 65536).toInt32 = x ∧ narrow .char (.int x) = .int x ∧ vp_nar .byte x.toInt8.toInt32 = x ∧ vp_nar .byte x = x ∧ fits .byte (.int x) = true ∧ ¬ 255 < x := by decide +kernel
  exact h i hi
theorem byt_fit {i : Nat} (hi : i < 54) : ∀ j, j < xLen.getD i 0 → fits .byte (.int ((byts i).getD j 0)) = true := by
  intro j hj
  rw [byt_len hi] at hj
  rw [List.getD_eq_getElem?_getD, List.getElem?_eq_getElem hj, Option.getD_some]
  exact (k_okB hi _ (List.getElem_mem hj)).2.2.2.2.1
theorem byt_fit2 {i n : Nat} {f : Nat → Int32} (hi : i < 54) (hf : sb_Fit f) : sb_Fit (va_cpy (fun j => (byts i).getD j 0) f 0 n (byts i).length) := by
  intro j
  by_cases h : n ≤ j ∧ j < n + (byts i).length
  · rw [show va_cpy (fun j => (byts i).getD j 0) f 0 n (byts i).length j = (byts i).getD (0 + (j - n)) 0 from if_pos h]
    exact byt_fit hi _ (by rw [byt_len hi]; omega)
  · rw [show va_cpy (fun j => (byts i).getD j 0) f 0 n (byts i).length j = f j from if_neg h]
    exact hf j
theorem dJ5_inflateIfNeededFor_a7421_0 : decode cJ5_inflateIfNeededFor_a7421 0 = .ok (.getstatic 18, 3) := by decide +kernel
theorem dJ5_inflateIfNeededFor_a7421_3 : decode cJ5_inflateIfNeededFor_a7421 3 = .ok (.ifCond .eq 18, 3) := by decide +kernel
theorem dJ5_inflateIfNeededFor_a7421_6 : decode cJ5_inflateIfNeededFor_a7421 6 = .ok (.aload_n 0, 1) := by decide +kernel
theorem dJ5_inflateIfNeededFor_a7421_7 : decode cJ5_inflateIfNeededFor_a7421 7 = .ok (.getfield 22, 3) := by decide +kernel
theorem dJ5_inflateIfNeededFor_a7421_10 : decode cJ5_inflateIfNeededFor_a7421 10 = .ok (.aload_n 1, 1) := by decide +kernel
theorem dJ5_inflateIfNeededFor_a7421_11 : decode cJ5_inflateIfNeededFor_a7421 11 = .ok (.invokevirtual 40, 3) := by decide +kernel
theorem dJ5_inflateIfNeededFor_a7421_14 : decode cJ5_inflateIfNeededFor_a7421 14 = .ok (.if_icmp .eq 7, 3) := by decide +kernel
theorem dJ5_inflateIfNeededFor_a7421_17 : decode cJ5_inflateIfNeededFor_a7421 17 = .ok (.aload_n 0, 1) := by decide +kernel
theorem dJ5_inflateIfNeededFor_a7421_18 : decode cJ5_inflateIfNeededFor_a7421 18 = .ok (.invokevirtual 195, 3) := by decide +kernel
theorem dJ5_inflateIfNeededFor_a7421_21 : decode cJ5_inflateIfNeededFor_a7421 21 = .ok (.return_, 1) := by decide +kernel
/-- java/lang/AbstractStringBuilder.inflateIfNeededFor(Ljava/lang/String;)V -/
def M_J5_inflateIfNeededFor_a7421 : xM := (yJ5_inflateIfNeededFor_a7421, cJ5_inflateIfNeededFor_a7421, 2, none, Cond.code yJ5_inflateIfNeededFor_a7421 cJ5_inflateIfNeededFor_a7421 2 none :: xAll, { frames := 5, cells := 0, slots := 0, locals := 90 }, (0, 0), [])
theorem g_J5_inflateIfNeededFor_a7421_18 : Cond.fieldLink (mY M_J5_inflateIfNeededFor_a7421).cls 18 "java/lang/String" "COMPACT_STRINGS" "Z" ∈ mW M_J5_inflateIfNeededFor_a7421 := List.mem_cons_of_mem _ (bw0)
theorem f_J5_inflateIfNeededFor_a7421_22 : xFl2 M_J5_inflateIfNeededFor_a7421 22 1 1 (tyJ4 1) := ⟨RJ4, TJ4, 4, tyJ4, rfl, by decide, fun w h => List.mem_cons_of_mem _ (inJ4 w h), List.mem_cons_of_mem _ (bw1), tyJ4_ok, nmJ4, rfl, rfl⟩
theorem bw55 : (Jvm.Cond.code ({ cls := "java/lang/String", name := "coder", desc := "()B" } : Jvm.MethodName) prog_30_method_152_code (1 : Nat) (Option.some Jvm.ClassFile.FieldType.byte)) ∈ xAll := xin5 (List.mem_of_getElem? (i := 54) (by decide +kernel)) (by decide +kernel)
theorem bw56 : (Jvm.Cond.initialized "java/lang/String") ∈ xAll := xin1 (List.mem_of_getElem? (i := 13) (by decide +kernel)) (by decide +kernel)
theorem bw57 : (Jvm.Cond.methodLink "java/lang/AbstractStringBuilder" (40 : Nat) ({ cls := "java/lang/String", name := "coder", desc := "()B" } : Jvm.MethodName)) ∈ xAll := xin5 (List.mem_of_getElem? (i := 64) (by decide +kernel)) (by decide +kernel)
theorem bw58 : (Jvm.Cond.instanceMethod ({ cls := "java/lang/String", name := "coder", desc := "()B" } : Jvm.MethodName)) ∈ xAll := xin5 (List.mem_of_getElem? (i := 52) (by decide +kernel)) (by decide +kernel)
theorem bw59 : (Jvm.Cond.selects "java/lang/String" ({ cls := "java/lang/String", name := "coder", desc := "()B" } : Jvm.MethodName) ({ cls := "java/lang/String", name := "coder", desc := "()B" } : Jvm.MethodName)) ∈ xAll := xin5 (List.mem_of_getElem? (i := 53) (by decide +kernel)) (by decide +kernel)
theorem s_J5_inflateIfNeededFor_a7421_40 : xSv M_J5_inflateIfNeededFor_a7421 M_J0_coder_7d493 40 0 := fun s args hts => ⟨callB_of 0 hts (xGood bw55) rfl rfl rfl (hts _ (List.mem_cons_of_mem _ (bw56))) (hts _ (List.mem_cons_of_mem _ (bw57))) (by decide +kernel) ⟨Nat.le_of_ble_eq_true rfl, Nat.le_of_ble_eq_true rfl⟩, (hts _ (List.mem_cons_of_mem _ (bw58))), (hts _ (List.mem_cons_of_mem _ (bw59)))⟩
set_option maxRecDepth 100000 in
set_option maxHeartbeats 4000000 in
theorem ct_J5_inflateIfNeededFor_a7421 {E : xE} {Po : xPo} {w : xW} {b : Nat} {va cap : Nat} {ml ct : Int32} {f : Nat → Int32} (H : HB E w b (va, cap, ml, ct, f)) {i : Nat} (hi : i < 54) (hp : Po (.inl none) w) : Ct M_J5_inflateIfNeededFor_a7421 E [.ref b, .ref (kS E i)] w Po := by
  refine Ct.of (ws2 := xAll) (L := [some (.ref b), some (.ref (kS E i))]) (by decide +kernel) rfl rfl (List.forall_mem_cons.mpr ⟨rfl, List.forall_mem_cons.mpr ⟨rfl, fun _ h => absurd h List.not_mem_nil⟩⟩) (Nat.le_of_ble_eq_true rfl) rfl ?_
  refine r_gets (q := 3) dJ5_inflateIfNeededFor_a7421_0 g_J5_inflateIfNeededFor_a7421_18 (k_cs) rfl ?_
  refine r_if_eq (q := 21) (q2 := 6) dJ5_inflateIfNeededFor_a7421_3 (by decide) rfl (fun h9 => absurd h9 (by decide)) (fun _ => ?_)
  refine r_aload_n (q := 7) dJ5_inflateIfNeededFor_a7421_6 rfl rfl rfl ?_
  refine r_getfS (q := 10) dJ5_inflateIfNeededFor_a7421_7 f_J5_inflateIfNeededFor_a7421_22 H.1 rfl rfl ?_
  refine r_aload_n (q := 11) dJ5_inflateIfNeededFor_a7421_10 rfl rfl rfl ?_
  refine r_callK (q := 14) (As := []) dJ5_inflateIfNeededFor_a7421_11 s_J5_inflateIfNeededFor_a7421_40 (k_so hi) rfl rfl (Nat.le_of_ble_eq_true rfl) rfl rfl rfl (Nat.le_of_ble_eq_true rfl) (Nat.le_of_ble_eq_true rfl) ⟨(Nat.le_of_ble_eq_true rfl), (Nat.le_of_ble_eq_true rfl)⟩ rfl ?_
  refine ct_J0_coder_7d493 hi ?_
  show WF _ E Po _ _ _ _ _ _ _
  refine r_icmp_eq (q := 21) (q2 := 17) dJ5_inflateIfNeededFor_a7421_14 (by decide) rfl (fun _ => ?_) (fun h9 => absurd rfl h9)
  refine r_vret dJ5_inflateIfNeededFor_a7421_21 rfl (Nat.le_of_ble_eq_true rfl) (Nat.le_of_ble_eq_true rfl) ?_
  exact hp
theorem dJ0_getBytes_840e7_0 : decode cJ0_getBytes_840e7 0 = .ok (.aload_n 0, 1) := by decide +kernel
theorem dJ0_getBytes_840e7_1 : decode cJ0_getBytes_840e7 1 = .ok (.invokevirtual 335, 3) := by decide +kernel
theorem dJ0_getBytes_840e7_4 : decode cJ0_getBytes_840e7 4 = .ok (.iload_n 3, 1) := by decide +kernel
theorem dJ0_getBytes_840e7_5 : decode cJ0_getBytes_840e7 5 = .ok (.if_icmp .ne 23, 3) := by decide +kernel
theorem dJ0_getBytes_840e7_8 : decode cJ0_getBytes_840e7 8 = .ok (.aload_n 0, 1) := by decide +kernel
theorem dJ0_getBytes_840e7_9 : decode cJ0_getBytes_840e7 9 = .ok (.getfield 9, 3) := by decide +kernel
theorem dJ0_getBytes_840e7_12 : decode cJ0_getBytes_840e7 12 = .ok (.iconst 0, 1) := by decide +kernel
theorem dJ0_getBytes_840e7_13 : decode cJ0_getBytes_840e7 13 = .ok (.aload_n 1, 1) := by decide +kernel
theorem dJ0_getBytes_840e7_14 : decode cJ0_getBytes_840e7 14 = .ok (.iload_n 2, 1) := by decide +kernel
theorem dJ0_getBytes_840e7_15 : decode cJ0_getBytes_840e7 15 = .ok (.iload_n 3, 1) := by decide +kernel
theorem dJ0_getBytes_840e7_16 : decode cJ0_getBytes_840e7 16 = .ok (.ishl, 1) := by decide +kernel
theorem dJ0_getBytes_840e7_17 : decode cJ0_getBytes_840e7 17 = .ok (.aload_n 0, 1) := by decide +kernel
theorem dJ0_getBytes_840e7_18 : decode cJ0_getBytes_840e7 18 = .ok (.getfield 9, 3) := by decide +kernel
theorem dJ0_getBytes_840e7_21 : decode cJ0_getBytes_840e7 21 = .ok (.arraylength, 1) := by decide +kernel
theorem dJ0_getBytes_840e7_22 : decode cJ0_getBytes_840e7 22 = .ok (.invokestatic 212, 3) := by decide +kernel
theorem dJ0_getBytes_840e7_25 : decode cJ0_getBytes_840e7 25 = .ok (.goto 18, 3) := by decide +kernel
theorem dJ0_getBytes_840e7_28 : decode cJ0_getBytes_840e7 28 = .ok (.aload_n 0, 1) := by decide +kernel
theorem dJ0_getBytes_840e7_29 : decode cJ0_getBytes_840e7 29 = .ok (.getfield 9, 3) := by decide +kernel
theorem dJ0_getBytes_840e7_32 : decode cJ0_getBytes_840e7 32 = .ok (.iconst 0, 1) := by decide +kernel
theorem dJ0_getBytes_840e7_33 : decode cJ0_getBytes_840e7 33 = .ok (.aload_n 1, 1) := by decide +kernel
theorem dJ0_getBytes_840e7_34 : decode cJ0_getBytes_840e7 34 = .ok (.iload_n 2, 1) := by decide +kernel
theorem dJ0_getBytes_840e7_35 : decode cJ0_getBytes_840e7 35 = .ok (.aload_n 0, 1) := by decide +kernel
theorem dJ0_getBytes_840e7_36 : decode cJ0_getBytes_840e7 36 = .ok (.getfield 9, 3) := by decide +kernel
theorem dJ0_getBytes_840e7_39 : decode cJ0_getBytes_840e7 39 = .ok (.arraylength, 1) := by decide +kernel
theorem dJ0_getBytes_840e7_40 : decode cJ0_getBytes_840e7 40 = .ok (.invokestatic 106, 3) := by decide +kernel
theorem dJ0_getBytes_840e7_43 : decode cJ0_getBytes_840e7 43 = .ok (.return_, 1) := by decide +kernel
/-- java/lang/String.getBytes([BIB)V -/
def M_J0_getBytes_840e7 : xM := (yJ0_getBytes_840e7, cJ0_getBytes_840e7, 4, none, Cond.code yJ0_getBytes_840e7 cJ0_getBytes_840e7 4 none :: xAll, { frames := 5, cells := 0, slots := 0, locals := 90 }, (0, 0), [])
theorem bw60 : (Jvm.Cond.methodLink "java/lang/String" (335 : Nat) ({ cls := "java/lang/String", name := "coder", desc := "()B" } : Jvm.MethodName)) ∈ xAll := xin5 (List.mem_of_getElem? (i := 51) (by decide +kernel)) (by decide +kernel)
theorem s_J0_getBytes_840e7_335 : xSv M_J0_getBytes_840e7 M_J0_coder_7d493 335 0 := fun s args hts => ⟨callB_of 0 hts (xGood bw55) rfl rfl rfl (hts _ (List.mem_cons_of_mem _ (bw56))) (hts _ (List.mem_cons_of_mem _ (bw60))) (by decide +kernel) ⟨Nat.le_of_ble_eq_true rfl, Nat.le_of_ble_eq_true rfl⟩, (hts _ (List.mem_cons_of_mem _ (bw58))), (hts _ (List.mem_cons_of_mem _ (bw59)))⟩
theorem bw61 : (Jvm.Cond.fieldLink "java/lang/String" (9 : Nat) "java/lang/String" "value" "[B") ∈ xAll := xin5 (List.mem_of_getElem? (i := 131) (by decide +kernel)) (by decide +kernel)
theorem g_J0_getBytes_840e7_9 : Cond.fieldLink (mY M_J0_getBytes_840e7).cls 9 "java/lang/String" "value" "[B" ∈ mW M_J0_getBytes_840e7 := List.mem_cons_of_mem _ (bw61)
theorem bw62 : (Jvm.Cond.methodLink "java/lang/String" (212 : Nat) ({ cls := "java/lang/System", name := "arraycopy", desc := "(Ljava/lang/Object;ILjava/lang/Object;II)V" } : Jvm.MethodName)) ∈ xAll := xin5 (List.mem_of_getElem? (i := 69) (by decide +kernel)) (by decide +kernel)
theorem a_J0_getBytes_840e7_212 : xAc M_J0_getBytes_840e7 212 := ⟨List.mem_cons_of_mem _ (bw62), List.mem_cons_of_mem _ (v171), List.mem_cons_of_mem _ (v172), List.mem_cons_of_mem _ (v173), Nat.le_of_ble_eq_true rfl, Nat.le_of_ble_eq_true rfl⟩
set_option maxRecDepth 100000 in
set_option maxHeartbeats 4000000 in
theorem ct_J0_getBytes_840e7 {E : xE} {Po : xPo} {w : xW} {va cap n i : Nat} {f : Nat → Int32} (hi : i < 54) (hw : w.1 va = some (.inl (E.1.2 7, cap, .inl f))) (hc : n + (byts i).length ≤ cap) (hb : cap < 1000) (hp : Po (.inl none) (xset w va (.inl (E.1.2 7, cap, .inl (va_cpy (fun j => (byts i).getD j 0) f 0 n (byts i).length))))) : Ct M_J0_getBytes_840e7 E [.ref (kS E i), .ref va, .int (nI n), .int 0] w Po := by
  refine Ct.of (ws2 := xAll) (L := [some (.ref (kS E i)), some (.ref va), some (.int (nI n)), some (.int 0)]) (by decide +kernel) rfl rfl (List.forall_mem_cons.mpr ⟨rfl, List.forall_mem_cons.mpr ⟨rfl, List.forall_mem_cons.mpr ⟨rfl, List.forall_mem_cons.mpr ⟨rfl, fun _ h => absurd h List.not_mem_nil⟩⟩⟩⟩) (Nat.le_of_ble_eq_true rfl) rfl ?_
  refine r_aload_n (q := 1) dJ0_getBytes_840e7_0 rfl rfl rfl ?_
  refine r_callK (q := 4) (As := []) dJ0_getBytes_840e7_1 s_J0_getBytes_840e7_335 (k_so hi) rfl rfl (Nat.le_of_ble_eq_true rfl) rfl rfl rfl (Nat.le_of_ble_eq_true rfl) (Nat.le_of_ble_eq_true rfl) ⟨(Nat.le_of_ble_eq_true rfl), (Nat.le_of_ble_eq_true rfl)⟩ rfl ?_
  refine ct_J0_coder_7d493 hi ?_
  show WF _ E Po _ _ _ _ _ _ _
  refine r_iload_n (q := 5) dJ0_getBytes_840e7_4 rfl rfl rfl ?_
  refine r_icmp_ne (q := 28) (q2 := 8) dJ0_getBytes_840e7_5 (by decide) rfl (fun h9 => absurd rfl h9) (fun _ => ?_)
  refine r_aload_n (q := 9) dJ0_getBytes_840e7_8 rfl rfl rfl ?_
  refine r_getk (q := 12) dJ0_getBytes_840e7_9 g_J0_getBytes_840e7_9 (k_sv hi) rfl ?_
  refine r_iconst (q := 13) (v := 0) dJ0_getBytes_840e7_12 rfl rfl ?_
  refine r_aload_n (q := 14) dJ0_getBytes_840e7_13 rfl rfl rfl ?_
  refine r_iload_n (q := 15) dJ0_getBytes_840e7_14 rfl rfl rfl ?_
  refine r_iload_n (q := 16) dJ0_getBytes_840e7_15 rfl rfl rfl ?_
  refine r_ishl (q := 17) dJ0_getBytes_840e7_16 rfl ?_
  rw [sb_shl0]
  refine r_aload_n (q := 18) dJ0_getBytes_840e7_17 rfl rfl rfl ?_
  refine r_getk (q := 21) dJ0_getBytes_840e7_18 g_J0_getBytes_840e7_9 (k_sv hi) rfl ?_
  refine r_tlen (q := 22) dJ0_getBytes_840e7_21 (k_sb hi) rfl ?_
  have hle := byt_len hi
  have hl6 := (k_len i hi).2.1
  refine r_copyT (q := 25) dJ0_getBytes_840e7_22 a_J0_getBytes_840e7_212 (k_sb hi) hw (byt_fit hi) (sa := 0) (da := n) (na := (byts i).length) rfl rfl (show Int32.ofNat (xLen.getD i 0) = nI (byts i).length by rw [hle]; rfl) (by rw [hle]; omega) hc ⟨by omega, by omega⟩ (Nat.le_of_ble_eq_true rfl) rfl ?_
  refine r_goto (q := 43) dJ0_getBytes_840e7_25 (by decide) ?_
  refine r_vret dJ0_getBytes_840e7_43 rfl (Nat.le_of_ble_eq_true rfl) (Nat.le_of_ble_eq_true rfl) ?_
  exact hp
theorem dJ5_putStringAt_47b60_0 : decode cJ5_putStringAt_47b60 0 = .ok (.aload_n 0, 1) := by decide +kernel
theorem dJ5_putStringAt_47b60_1 : decode cJ5_putStringAt_47b60 1 = .ok (.aload_n 2, 1) := by decide +kernel
theorem dJ5_putStringAt_47b60_2 : decode cJ5_putStringAt_47b60 2 = .ok (.invokevirtual 397, 3) := by decide +kernel
theorem dJ5_putStringAt_47b60_5 : decode cJ5_putStringAt_47b60 5 = .ok (.aload_n 2, 1) := by decide +kernel
theorem dJ5_putStringAt_47b60_6 : decode cJ5_putStringAt_47b60 6 = .ok (.aload_n 0, 1) := by decide +kernel
theorem dJ5_putStringAt_47b60_7 : decode cJ5_putStringAt_47b60 7 = .ok (.getfield 15, 3) := by decide +kernel
theorem dJ5_putStringAt_47b60_10 : decode cJ5_putStringAt_47b60 10 = .ok (.iload_n 1, 1) := by decide +kernel
theorem dJ5_putStringAt_47b60_11 : decode cJ5_putStringAt_47b60 11 = .ok (.aload_n 0, 1) := by decide +kernel
theorem dJ5_putStringAt_47b60_12 : decode cJ5_putStringAt_47b60 12 = .ok (.getfield 22, 3) := by decide +kernel
theorem dJ5_putStringAt_47b60_15 : decode cJ5_putStringAt_47b60 15 = .ok (.invokevirtual 399, 3) := by decide +kernel
theorem dJ5_putStringAt_47b60_18 : decode cJ5_putStringAt_47b60 18 = .ok (.return_, 1) := by decide +kernel
/-- java/lang/AbstractStringBuilder.putStringAt(ILjava/lang/String;)V -/
def M_J5_putStringAt_47b60 : xM := (yJ5_putStringAt_47b60, cJ5_putStringAt_47b60, 3, none, Cond.code yJ5_putStringAt_47b60 cJ5_putStringAt_47b60 3 none :: (xPv ++ xAll), { frames := 6, cells := 0, slots := 0, locals := 113 }, (0, 0), [])
theorem bw63 : (Jvm.Cond.code ({ cls := "java/lang/AbstractStringBuilder", name := "inflateIfNeededFor", desc := "(Ljava/lang/String;)V" } : Jvm.MethodName) prog_14_method_71_code (2 : Nat) (Option.none : Option Jvm.ClassFile.FieldType)) ∈ xAll := xin5 (List.mem_of_getElem? (i := 63) (by decide +kernel)) (by decide +kernel)
theorem bw64 : (Jvm.Cond.methodLink "java/lang/AbstractStringBuilder" (397 : Nat) ({ cls := "java/lang/AbstractStringBuilder", name := "inflateIfNeededFor", desc := "(Ljava/lang/String;)V" } : Jvm.MethodName)) ∈ xAll := xin5 (List.mem_of_getElem? (i := 60) (by decide +kernel)) (by decide +kernel)
theorem bw65 : (Jvm.Cond.instanceMethod ({ cls := "java/lang/AbstractStringBuilder", name := "inflateIfNeededFor", desc := "(Ljava/lang/String;)V" } : Jvm.MethodName)) ∈ xAll := xin5 (List.mem_of_getElem? (i := 62) (by decide +kernel)) (by decide +kernel)
theorem s_J5_putStringAt_47b60_397 : xSpriv M_J5_putStringAt_47b60 M_J5_inflateIfNeededFor_a7421 397 1 := fun s args hts => ⟨callB_of 1 (htsP hts) (xGood bw63) rfl rfl rfl (hts _ (mP (bw19))) (hts _ (mP (bw64))) (by decide +kernel) ⟨Nat.le_of_ble_eq_true rfl, Nat.le_of_ble_eq_true rfl⟩, (hts _ (mP (bw65))), htsQ hts _ (List.mem_of_getElem? (i := 3) rfl), "java/lang/StringBuilder", ({ cls := "java/lang/AbstractStringBuilder", name := "isLatin1", desc := "()Z" } : Jvm.MethodName), (hts _ (mP (bw22))), rfl⟩
theorem f_J5_putStringAt_47b60_15 : xFl2 M_J5_putStringAt_47b60 15 1 0 (tyJ4 0) := ⟨RJ4, TJ4, 4, tyJ4, rfl, by decide, fun w h => mP (inJ4 w h), mP (bw8), tyJ4_ok, nmJ4, rfl, rfl⟩
theorem f_J5_putStringAt_47b60_22 : xFl2 M_J5_putStringAt_47b60 22 1 1 (tyJ4 1) := ⟨RJ4, TJ4, 4, tyJ4, rfl, by decide, fun w h => mP (inJ4 w h), mP (bw1), tyJ4_ok, nmJ4, rfl, rfl⟩
theorem bw66 : (Jvm.Cond.code ({ cls := "java/lang/String", name := "getBytes", desc := "([BIB)V" } : Jvm.MethodName) prog_30_method_147_code (4 : Nat) (Option.none : Option Jvm.ClassFile.FieldType)) ∈ xAll := xin5 (List.mem_of_getElem? (i := 68) (by decide +kernel)) (by decide +kernel)
theorem bw67 : (Jvm.Cond.methodLink "java/lang/AbstractStringBuilder" (399 : Nat) ({ cls := "java/lang/String", name := "getBytes", desc := "([BIB)V" } : Jvm.MethodName)) ∈ xAll := xin5 (List.mem_of_getElem? (i := 65) (by decide +kernel)) (by decide +kernel)
theorem bw68 : (Jvm.Cond.instanceMethod ({ cls := "java/lang/String", name := "getBytes", desc := "([BIB)V" } : Jvm.MethodName)) ∈ xAll := xin5 (List.mem_of_getElem? (i := 66) (by decide +kernel)) (by decide +kernel)
theorem bw69 : (Jvm.Cond.selects "java/lang/String" ({ cls := "java/lang/String", name := "getBytes", desc := "([BIB)V" } : Jvm.MethodName) ({ cls := "java/lang/String", name := "getBytes", desc := "([BIB)V" } : Jvm.MethodName)) ∈ xAll := xin5 (List.mem_of_getElem? (i := 67) (by decide +kernel)) (by decide +kernel)
theorem s_J5_putStringAt_47b60_399 : xSv M_J5_putStringAt_47b60 M_J0_getBytes_840e7 399 3 := fun s args hts => ⟨callB_of 3 (htsP hts) (xGood bw66) rfl rfl rfl (hts _ (mP (bw56))) (hts _ (mP (bw67))) (by decide +kernel) ⟨Nat.le_of_ble_eq_true rfl, Nat.le_of_ble_eq_true rfl⟩, (hts _ (mP (bw68))), (hts _ (mP (bw69)))⟩
set_option maxRecDepth 100000 in
set_option maxHeartbeats 4000000 in
theorem ct_J5_putStringAt_47b60 {E : xE} {Po : xPo} {w : xW} {b : Nat} {va cap : Nat} {ml ct : Int32} {f : Nat → Int32} (H : HB E w b (va, cap, ml, ct, f)) {n i : Nat} (hi : i < 54) (hc : n + (byts i).length ≤ cap) (hb : cap < 1000) (hp : Po (.inl none) (xset w va (.inl (E.1.2 7, cap, .inl (va_cpy (fun j => (byts i).getD j 0) f 0 n (byts i).length))))) : Ct M_J5_putStringAt_47b60 E [.ref b, .int (nI n), .ref (kS E i)] w Po := by
  refine Ct.of (ws2 := xPv ++ xAll) (L := [some (.ref b), some (.int (nI n)), some (.ref (kS E i))]) (by decide +kernel) rfl rfl (List.forall_mem_cons.mpr ⟨rfl, List.forall_mem_cons.mpr ⟨rfl, List.forall_mem_cons.mpr ⟨rfl, fun _ h => absurd h List.not_mem_nil⟩⟩⟩) (Nat.le_of_ble_eq_true rfl) rfl ?_
  refine r_aload_n (q := 1) dJ5_putStringAt_47b60_0 rfl rfl rfl ?_
  refine r_aload_n (q := 2) dJ5_putStringAt_47b60_1 rfl rfl rfl ?_
  refine r_callP (q := 5) (ci := 1) (As := [_]) dJ5_putStringAt_47b60_2 s_J5_putStringAt_47b60_397 H.1 rfl rfl (Nat.le_of_ble_eq_true rfl) rfl rfl rfl (Nat.le_of_ble_eq_true rfl) (Nat.le_of_ble_eq_true rfl) ⟨(Nat.le_of_ble_eq_true rfl), (Nat.le_of_ble_eq_true rfl)⟩ rfl ?_
  refine ct_J5_inflateIfNeededFor_a7421 H hi ?_
  show WF _ E Po _ _ _ _ _ _ _
  refine r_aload_n (q := 6) dJ5_putStringAt_47b60_5 rfl rfl rfl ?_
  refine r_aload_n (q := 7) dJ5_putStringAt_47b60_6 rfl rfl rfl ?_
  refine r_getfS (q := 10) dJ5_putStringAt_47b60_7 f_J5_putStringAt_47b60_15 H.1 rfl rfl ?_
  refine r_iload_n (q := 11) dJ5_putStringAt_47b60_10 rfl rfl rfl ?_
  refine r_aload_n (q := 12) dJ5_putStringAt_47b60_11 rfl rfl rfl ?_
  refine r_getfS (q := 15) dJ5_putStringAt_47b60_12 f_J5_putStringAt_47b60_22 H.1 rfl rfl ?_
  refine r_callK (q := 18) (As := [_, _, _]) dJ5_putStringAt_47b60_15 s_J5_putStringAt_47b60_399 (k_so hi) rfl rfl (Nat.le_of_ble_eq_true rfl) rfl rfl rfl (Nat.le_of_ble_eq_true rfl) (Nat.le_of_ble_eq_true rfl) ⟨(Nat.le_of_ble_eq_true rfl), (Nat.le_of_ble_eq_true rfl)⟩ rfl ?_
  refine ct_J0_getBytes_840e7 hi H.2.1 hc hb ?_
  show WF _ E Po _ _ _ _ _ _ _
  refine r_vret dJ5_putStringAt_47b60_18 rfl (Nat.le_of_ble_eq_true rfl) (Nat.le_of_ble_eq_true rfl) ?_
  exact hp
theorem dJ5_append_cf1ce_0 : decode cJ5_append_cf1ce 0 = .ok (.aload_n 1, 1) := by decide +kernel
theorem dJ5_append_cf1ce_1 : decode cJ5_append_cf1ce 1 = .ok (.ifnonnull 8, 3) := by decide +kernel
theorem dJ5_append_cf1ce_4 : decode cJ5_append_cf1ce 4 = .ok (.aload_n 0, 1) := by decide +kernel
theorem dJ5_append_cf1ce_5 : decode cJ5_append_cf1ce 5 = .ok (.invokevirtual 204, 3) := by decide +kernel
theorem dJ5_append_cf1ce_8 : decode cJ5_append_cf1ce 8 = .ok (.areturn, 1) := by decide +kernel
theorem dJ5_append_cf1ce_9 : decode cJ5_append_cf1ce 9 = .ok (.aload_n 1, 1) := by decide +kernel
theorem dJ5_append_cf1ce_10 : decode cJ5_append_cf1ce 10 = .ok (.invokevirtual 32, 3) := by decide +kernel
theorem dJ5_append_cf1ce_13 : decode cJ5_append_cf1ce 13 = .ok (.istore_n 2, 1) := by decide +kernel
theorem dJ5_append_cf1ce_14 : decode cJ5_append_cf1ce 14 = .ok (.aload_n 0, 1) := by decide +kernel
theorem dJ5_append_cf1ce_15 : decode cJ5_append_cf1ce 15 = .ok (.aload_n 0, 1) := by decide +kernel
theorem dJ5_append_cf1ce_16 : decode cJ5_append_cf1ce 16 = .ok (.getfield 79, 3) := by decide +kernel
theorem dJ5_append_cf1ce_19 : decode cJ5_append_cf1ce 19 = .ok (.iload_n 2, 1) := by decide +kernel
theorem dJ5_append_cf1ce_20 : decode cJ5_append_cf1ce 20 = .ok (.iadd, 1) := by decide +kernel
theorem dJ5_append_cf1ce_21 : decode cJ5_append_cf1ce 21 = .ok (.invokevirtual 100, 3) := by decide +kernel
theorem dJ5_append_cf1ce_24 : decode cJ5_append_cf1ce 24 = .ok (.aload_n 0, 1) := by decide +kernel
theorem dJ5_append_cf1ce_25 : decode cJ5_append_cf1ce 25 = .ok (.aload_n 0, 1) := by decide +kernel
theorem dJ5_append_cf1ce_26 : decode cJ5_append_cf1ce 26 = .ok (.getfield 79, 3) := by decide +kernel
theorem dJ5_append_cf1ce_29 : decode cJ5_append_cf1ce 29 = .ok (.aload_n 1, 1) := by decide +kernel
theorem dJ5_append_cf1ce_30 : decode cJ5_append_cf1ce 30 = .ok (.invokevirtual 208, 3) := by decide +kernel
theorem dJ5_append_cf1ce_33 : decode cJ5_append_cf1ce 33 = .ok (.aload_n 0, 1) := by decide +kernel
theorem dJ5_append_cf1ce_34 : decode cJ5_append_cf1ce 34 = .ok (.dup, 1) := by decide +kernel
theorem dJ5_append_cf1ce_35 : decode cJ5_append_cf1ce 35 = .ok (.getfield 79, 3) := by decide +kernel
theorem dJ5_append_cf1ce_38 : decode cJ5_append_cf1ce 38 = .ok (.iload_n 2, 1) := by decide +kernel
theorem dJ5_append_cf1ce_39 : decode cJ5_append_cf1ce 39 = .ok (.iadd, 1) := by decide +kernel
theorem dJ5_append_cf1ce_40 : decode cJ5_append_cf1ce 40 = .ok (.putfield 79, 3) := by decide +kernel
theorem dJ5_append_cf1ce_43 : decode cJ5_append_cf1ce 43 = .ok (.aload_n 0, 1) := by decide +kernel
theorem dJ5_append_cf1ce_44 : decode cJ5_append_cf1ce 44 = .ok (.areturn, 1) := by decide +kernel
/-- java/lang/AbstractStringBuilder.append(Ljava/lang/String;)Ljava/lang/AbstractStringBuilder; -/
def M_J5_append_cf1ce : xM := (yJ5_append_cf1ce, cJ5_append_cf1ce, 3, (some (FieldType.object "java/lang/AbstractStringBuilder")), Cond.code yJ5_append_cf1ce cJ5_append_cf1ce 3 (some (FieldType.object "java/lang/AbstractStringBuilder")) :: (xPv ++ xAll), { frames := 8, cells := 1, slots := 122, locals := 160 }, (1, 122), [])
theorem bw70 : (Jvm.Cond.code ({ cls := "java/lang/String", name := "length", desc := "()I" } : Jvm.MethodName) prog_30_method_54_code (1 : Nat) (Option.some Jvm.ClassFile.FieldType.int)) ∈ xAll := xin5 (List.mem_of_getElem? (i := 50) (by decide +kernel)) (by decide +kernel)
theorem bw71 : (Jvm.Cond.methodLink "java/lang/AbstractStringBuilder" (32 : Nat) ({ cls := "java/lang/String", name := "length", desc := "()I" } : Jvm.MethodName)) ∈ xAll := xin5 (List.mem_of_getElem? (i := 47) (by decide +kernel)) (by decide +kernel)
theorem bw72 : (Jvm.Cond.instanceMethod ({ cls := "java/lang/String", name := "length", desc := "()I" } : Jvm.MethodName)) ∈ xAll := xin5 (List.mem_of_getElem? (i := 48) (by decide +kernel)) (by decide +kernel)
theorem bw73 : (Jvm.Cond.selects "java/lang/String" ({ cls := "java/lang/String", name := "length", desc := "()I" } : Jvm.MethodName) ({ cls := "java/lang/String", name := "length", desc := "()I" } : Jvm.MethodName)) ∈ xAll := xin5 (List.mem_of_getElem? (i := 49) (by decide +kernel)) (by decide +kernel)
theorem s_J5_append_cf1ce_32 : xSv M_J5_append_cf1ce M_J0_length_8abf5 32 0 := fun s args hts => ⟨callB_of 0 (htsP hts) (xGood bw70) rfl rfl rfl (hts _ (mP (bw56))) (hts _ (mP (bw71))) (by decide +kernel) ⟨Nat.le_of_ble_eq_true rfl, Nat.le_of_ble_eq_true rfl⟩, (hts _ (mP (bw72))), (hts _ (mP (bw73)))⟩
theorem f_J5_append_cf1ce_79 : xFl2 M_J5_append_cf1ce 79 1 3 (tyJ4 3) := ⟨RJ4, TJ4, 4, tyJ4, rfl, by decide, fun w h => mP (inJ4 w h), mP (bw2), tyJ4_ok, nmJ4, rfl, rfl⟩
theorem s_J5_append_cf1ce_100 : xSpriv M_J5_append_cf1ce M_J5_ensureCapacityInternal_d00df 100 1 := fun s args hts => ⟨liftB (callB_of 1 (htsP hts) (xGood bw27) rfl rfl rfl (hts _ (mP (bw19))) (hts _ (mP (bw28))) (by decide +kernel) ⟨Nat.le_of_ble_eq_true rfl, Nat.le_of_ble_eq_true rfl⟩) (htsQ hts), (hts _ (mP (bw29))), htsQ hts _ (List.mem_of_getElem? (i := 0) rfl), "java/lang/StringBuilder", ({ cls := "java/lang/AbstractStringBuilder", name := "isLatin1", desc := "()Z" } : Jvm.MethodName), (hts _ (mP (bw22))), rfl⟩
theorem bw74 : (Jvm.Cond.code ({ cls := "java/lang/AbstractStringBuilder", name := "putStringAt", desc := "(ILjava/lang/String;)V" } : Jvm.MethodName) prog_14_method_73_code (3 : Nat) (Option.none : Option Jvm.ClassFile.FieldType)) ∈ xAll := xin5 (List.mem_of_getElem? (i := 59) (by decide +kernel)) (by decide +kernel)
theorem bw75 : (Jvm.Cond.methodLink "java/lang/AbstractStringBuilder" (208 : Nat) ({ cls := "java/lang/AbstractStringBuilder", name := "putStringAt", desc := "(ILjava/lang/String;)V" } : Jvm.MethodName)) ∈ xAll := xin5 (List.mem_of_getElem? (i := 56) (by decide +kernel)) (by decide +kernel)
theorem bw76 : (Jvm.Cond.instanceMethod ({ cls := "java/lang/AbstractStringBuilder", name := "putStringAt", desc := "(ILjava/lang/String;)V" } : Jvm.MethodName)) ∈ xAll := xin5 (List.mem_of_getElem? (i := 58) (by decide +kernel)) (by decide +kernel)
theorem s_J5_append_cf1ce_208 : xSpriv M_J5_append_cf1ce M_J5_putStringAt_47b60 208 2 := fun s args hts => ⟨liftB (callB_of 2 (htsP hts) (xGood bw74) rfl rfl rfl (hts _ (mP (bw19))) (hts _ (mP (bw75))) (by decide +kernel) ⟨Nat.le_of_ble_eq_true rfl, Nat.le_of_ble_eq_true rfl⟩) (htsQ hts), (hts _ (mP (bw76))), htsQ hts _ (List.mem_of_getElem? (i := 2) rfl), "java/lang/StringBuilder", ({ cls := "java/lang/AbstractStringBuilder", name := "isLatin1", desc := "()Z" } : Jvm.MethodName), (hts _ (mP (bw22))), rfl⟩
set_option maxRecDepth 100000 in
set_option maxHeartbeats 4000000 in
theorem ct_J5_append_cf1ce {E : xE} {Po : xPo} {w : xW} {b : Nat} {va cap : Nat} {ml ct : Int32} {f : Nat → Int32} (H : HB E w b (va, cap, ml, ct, f)) {l : List Int32} (hL : hasL (va, cap, ml, ct, f) l) {i : Nat} (hi : i < 54) (hl : l.length + (byts i).length ≤ 60) (hp : ∀ (u : xW) (B2 : xBd), HB E u b B2 → hasL B2 (l ++ byts i) → FB w u b (va, cap, ml, ct, f) B2 → Po (.inl (some (.ref b))) u) : Ct M_J5_append_cf1ce E [.ref b, .ref (kS E i)] w Po := by
  refine Ct.of (ws2 := xPv ++ xAll) (L := [some (.ref b), some (.ref (kS E i)), none]) (by decide +kernel) rfl rfl (List.forall_mem_cons.mpr ⟨rfl, List.forall_mem_cons.mpr ⟨rfl, fun _ h => absurd h List.not_mem_nil⟩⟩) (Nat.le_of_ble_eq_true rfl) rfl ?_
  obtain rfl : ct = nI l.length := hL.1
  refine r_aload_n (q := 1) dJ5_append_cf1ce_0 rfl rfl rfl ?_
  refine r_ifnonnull (q := 9) dJ5_append_cf1ce_1 (by decide) ?_
  refine r_aload_n (q := 10) dJ5_append_cf1ce_9 rfl rfl rfl ?_
  refine r_callK (q := 13) (As := []) dJ5_append_cf1ce_10 s_J5_append_cf1ce_32 (k_so hi) rfl rfl (Nat.le_of_ble_eq_true rfl) rfl rfl rfl (Nat.le_of_ble_eq_true rfl) (Nat.le_of_ble_eq_true rfl) ⟨(Nat.le_of_ble_eq_true rfl), (Nat.le_of_ble_eq_true rfl)⟩ rfl ?_
  refine ct_J0_length_8abf5 hi ?_
  show WF _ E Po _ _ _ _ _ _ _
  rw [byt_len hi]
  refine r_istore_n (q := 14) dJ5_append_cf1ce_13 rfl (Nat.le_of_ble_eq_true rfl) (xone_of rfl) rfl ?_
  refine r_aload_n (q := 15) dJ5_append_cf1ce_14 rfl rfl rfl ?_
  refine r_aload_n (q := 16) dJ5_append_cf1ce_15 rfl rfl rfl ?_
  refine r_getfS (q := 19) dJ5_append_cf1ce_16 f_J5_append_cf1ce_79 H.1 rfl rfl ?_
  refine r_iload_n (q := 20) dJ5_append_cf1ce_19 rfl rfl rfl ?_
  refine r_iadd (q := 21) dJ5_append_cf1ce_20 rfl ?_
  rw [nI_a2]
  refine r_callP (q := 24) (ci := 1) (As := [_]) dJ5_append_cf1ce_21 s_J5_append_cf1ce_100 H.1 rfl rfl (Nat.le_of_ble_eq_true rfl) rfl rfl rfl (Nat.le_of_ble_eq_true rfl) (Nat.le_of_ble_eq_true rfl) ⟨(Nat.le_of_ble_eq_true rfl), (Nat.le_of_ble_eq_true rfl)⟩ rfl ?_
  refine ct_J5_ensureCapacityInternal_d00df H hL (by omega) (fun u B2 H2 L2 F2 c2 => ?_)
  show WF _ E Po _ _ _ _ _ _ _
  obtain ⟨va2, cap2, ml2, ct2, f2⟩ := B2
  obtain rfl : ct2 = nI l.length := L2.1
  have hcap2 : cap2 ≤ 125 := L2.2.2.1.2
  have hbva : b < va2 := H2.2.2.1
  change _ ≤ cap2 at c2
  refine r_aload_n (q := 25) dJ5_append_cf1ce_24 rfl rfl rfl ?_
  refine r_aload_n (q := 26) dJ5_append_cf1ce_25 rfl rfl rfl ?_
  refine r_getfS (q := 29) dJ5_append_cf1ce_26 f_J5_append_cf1ce_79 H2.1 rfl rfl ?_
  refine r_aload_n (q := 30) dJ5_append_cf1ce_29 rfl rfl rfl ?_
  refine r_callP (q := 33) (ci := 1) (As := [_, _]) dJ5_append_cf1ce_30 s_J5_append_cf1ce_208 H2.1 rfl rfl (Nat.le_of_ble_eq_true rfl) rfl rfl rfl (Nat.le_of_ble_eq_true rfl) (Nat.le_of_ble_eq_true rfl) ⟨(Nat.le_of_ble_eq_true rfl), (Nat.le_of_ble_eq_true rfl)⟩ rfl ?_
  refine ct_J5_putStringAt_47b60 H2 hi c2 (by omega) ?_
  show WF _ E Po _ _ _ _ _ _ _
  refine r_aload_n (q := 34) dJ5_append_cf1ce_33 rfl rfl rfl ?_
  refine r_dup (q := 35) dJ5_append_cf1ce_34 rfl rfl ?_
  refine r_getfS (q := 38) dJ5_append_cf1ce_35 f_J5_append_cf1ce_79 ((xset_o (Nat.ne_of_lt hbva)).trans H2.1) rfl rfl ?_
  refine r_iload_n (q := 39) dJ5_append_cf1ce_38 rfl rfl rfl ?_
  refine r_iadd (q := 40) dJ5_append_cf1ce_39 rfl ?_
  rw [nI_a2]
  refine r_putfS (q := 43) dJ5_append_cf1ce_40 f_J5_append_cf1ce_79 ((xset_o (Nat.ne_of_lt hbva)).trans H2.1) rfl rfl (Nat.le_of_ble_eq_true rfl) rfl ?_
  refine r_aload_n (q := 44) dJ5_append_cf1ce_43 rfl rfl rfl ?_
  refine r_aret dJ5_append_cf1ce_44 rfl (Or.inr ⟨_, rfl⟩) (Nat.le_of_ble_eq_true rfl) (Nat.le_of_ble_eq_true rfl) ?_
  exact hp _ (va2, cap2, ml2, nI (l.length + (byts i).length), va_cpy (fun j => (byts i).getD j 0) f2 0 l.length (byts i).length) (HB.put H2) (hasL.app L2 c2 (fun j hj => pk_cpy_out (Or.inl hj)) (fun j hj => by
    rw [pk_cpy_in (by omega) (by omega), show 0 + (l.length + j - l.length) = j by omega]) (k_okB hi) (byt_fit2 hi L2.2.2.2.2.2)) F2.put
theorem dJ4_append_15ec4_0 : decode cJ4_append_15ec4 0 = .ok (.aload_n 0, 1) := by decide +kernel
theorem dJ4_append_15ec4_1 : decode cJ4_append_15ec4 1 = .ok (.aload_n 1, 1) := by decide +kernel
theorem dJ4_append_15ec4_2 : decode cJ4_append_15ec4 2 = .ok (.invokespecial 29, 3) := by decide +kernel
theorem dJ4_append_15ec4_5 : decode cJ4_append_15ec4 5 = .ok (.pop, 1) := by decide +kernel
theorem dJ4_append_15ec4_6 : decode cJ4_append_15ec4 6 = .ok (.aload_n 0, 1) := by decide +kernel
theorem dJ4_append_15ec4_7 : decode cJ4_append_15ec4 7 = .ok (.areturn, 1) := by decide +kernel
/-- java/lang/StringBuilder.append(Ljava/lang/String;)Ljava/lang/StringBuilder; -/
def M_J4_append_15ec4 : xM := (yJ4_append_15ec4, cJ4_append_15ec4, 2, (some (FieldType.object "java/lang/StringBuilder")), Cond.code yJ4_append_15ec4 cJ4_append_15ec4 2 (some (FieldType.object "java/lang/StringBuilder")) :: (xPv ++ xAll), { frames := 9, cells := 1, slots := 122, locals := 182 }, (1, 122), [])
theorem bw77 : (Jvm.Cond.code ({ cls := "java/lang/AbstractStringBuilder", name := "append", desc := "(Ljava/lang/String;)Ljava/lang/AbstractStringBuilder;" } : Jvm.MethodName) prog_14_method_22_code (3 : Nat) (Option.some (Jvm.ClassFile.FieldType.object "java/lang/AbstractStringBuilder"))) ∈ xAll := xin5 (List.mem_of_getElem? (i := 39) (by decide +kernel)) (by decide +kernel)
theorem bw78 : (Jvm.Cond.methodLink "java/lang/StringBuilder" (29 : Nat) ({ cls := "java/lang/AbstractStringBuilder", name := "append", desc := "(Ljava/lang/String;)Ljava/lang/AbstractStringBuilder;" } : Jvm.MethodName)) ∈ xAll := xin5 (List.mem_of_getElem? (i := 37) (by decide +kernel)) (by decide +kernel)
theorem bw79 : (Jvm.Cond.sameMethod "java/lang/AbstractStringBuilder" "java/lang/AbstractStringBuilder" "append" "(Ljava/lang/String;)Ljava/lang/AbstractStringBuilder;") ∈ xAll := xin6 (List.mem_of_getElem? (i := 208) (by decide +kernel)) (by decide +kernel)
theorem bw80 : (Jvm.Cond.instanceMethod ({ cls := "java/lang/AbstractStringBuilder", name := "append", desc := "(Ljava/lang/String;)Ljava/lang/AbstractStringBuilder;" } : Jvm.MethodName)) ∈ xAll := xin5 (List.mem_of_getElem? (i := 38) (by decide +kernel)) (by decide +kernel)
theorem s_J4_append_15ec4_29 : xSuper M_J4_append_15ec4 M_J5_append_cf1ce 29 1 := fun s args hts => liftS (va_cwSU 1 (htsP hts) (xGSU bw78 bw79 bw40 bw80 bw19 bw77) rfl rfl rfl (by decide +kernel) ⟨Nat.le_of_ble_eq_true rfl, Nat.le_of_ble_eq_true rfl⟩) (htsQ hts)
set_option maxRecDepth 100000 in
set_option maxHeartbeats 4000000 in
theorem ct_J4_append_15ec4 {E : xE} {Po : xPo} {w : xW} {b : Nat} {va cap : Nat} {ml ct : Int32} {f : Nat → Int32} (H : HB E w b (va, cap, ml, ct, f)) {l : List Int32} (hL : hasL (va, cap, ml, ct, f) l) {i : Nat} (hi : i < 54) (hl : l.length + (byts i).length ≤ 60) (hp : ∀ (u : xW) (B2 : xBd), HB E u b B2 → hasL B2 (l ++ byts i) → FB w u b (va, cap, ml, ct, f) B2 → Po (.inl (some (.ref b))) u) : Ct M_J4_append_15ec4 E [.ref b, .ref (kS E i)] w Po := by
  refine Ct.of (ws2 := xPv ++ xAll) (L := [some (.ref b), some (.ref (kS E i))]) (by decide +kernel) rfl rfl (List.forall_mem_cons.mpr ⟨rfl, List.forall_mem_cons.mpr ⟨rfl, fun _ h => absurd h List.not_mem_nil⟩⟩) (Nat.le_of_ble_eq_true rfl) rfl ?_
  refine r_aload_n (q := 1) dJ4_append_15ec4_0 rfl rfl rfl ?_
  refine r_aload_n (q := 2) dJ4_append_15ec4_1 rfl rfl rfl ?_
  refine r_callSp (q := 5) (ci := 1) (As := [_]) dJ4_append_15ec4_2 s_J4_append_15ec4_29 H.1 rfl (Nat.le_of_ble_eq_true rfl) rfl rfl rfl ⟨(Nat.le_of_ble_eq_true rfl), (Nat.le_of_ble_eq_true rfl)⟩ rfl ?_
  refine ct_J5_append_cf1ce H hL hi hl (fun u B2 H2 L2 F2 => ?_)
  show WF _ E Po _ _ _ _ _ _ _
  refine r_pop (q := 6) dJ4_append_15ec4_5 rfl rfl ?_
  refine r_aload_n (q := 7) dJ4_append_15ec4_6 rfl rfl rfl ?_
  refine r_aret dJ4_append_15ec4_7 rfl (Or.inr ⟨_, rfl⟩) (Nat.le_of_ble_eq_true rfl) (Nat.le_of_ble_eq_true rfl) ?_
  exact hp u B2 H2 L2 F2
theorem dJ5_setLength_d00df_0 : decode cJ5_setLength_d00df 0 = .ok (.iload_n 1, 1) := by decide +kernel
theorem dJ5_setLength_d00df_1 : decode cJ5_setLength_d00df 1 = .ok (.ifCond .ge 12, 3) := by decide +kernel
theorem dJ5_setLength_d00df_4 : decode cJ5_setLength_d00df 4 = .ok (.new 129, 3) := by decide +kernel
theorem dJ5_setLength_d00df_7 : decode cJ5_setLength_d00df 7 = .ok (.dup, 1) := by decide +kernel
theorem dJ5_setLength_d00df_8 : decode cJ5_setLength_d00df 8 = .ok (.iload_n 1, 1) := by decide +kernel
theorem dJ5_setLength_d00df_9 : decode cJ5_setLength_d00df 9 = .ok (.invokespecial 131, 3) := by decide +kernel
theorem dJ5_setLength_d00df_12 : decode cJ5_setLength_d00df 12 = .ok (.athrow, 1) := by decide +kernel
theorem dJ5_setLength_d00df_13 : decode cJ5_setLength_d00df 13 = .ok (.aload_n 0, 1) := by decide +kernel
theorem dJ5_setLength_d00df_14 : decode cJ5_setLength_d00df 14 = .ok (.iload_n 1, 1) := by decide +kernel
theorem dJ5_setLength_d00df_15 : decode cJ5_setLength_d00df 15 = .ok (.invokevirtual 100, 3) := by decide +kernel
theorem dJ5_setLength_d00df_18 : decode cJ5_setLength_d00df 18 = .ok (.aload_n 0, 1) := by decide +kernel
theorem dJ5_setLength_d00df_19 : decode cJ5_setLength_d00df 19 = .ok (.getfield 79, 3) := by decide +kernel
theorem dJ5_setLength_d00df_22 : decode cJ5_setLength_d00df 22 = .ok (.iload_n 1, 1) := by decide +kernel
theorem dJ5_setLength_d00df_23 : decode cJ5_setLength_d00df 23 = .ok (.if_icmp .ge 40, 3) := by decide +kernel
theorem dJ5_setLength_d00df_26 : decode cJ5_setLength_d00df 26 = .ok (.aload_n 0, 1) := by decide +kernel
theorem dJ5_setLength_d00df_27 : decode cJ5_setLength_d00df 27 = .ok (.invokevirtual 83, 3) := by decide +kernel
theorem dJ5_setLength_d00df_30 : decode cJ5_setLength_d00df 30 = .ok (.ifCond .eq 18, 3) := by decide +kernel
theorem dJ5_setLength_d00df_33 : decode cJ5_setLength_d00df 33 = .ok (.aload_n 0, 1) := by decide +kernel
theorem dJ5_setLength_d00df_34 : decode cJ5_setLength_d00df 34 = .ok (.getfield 15, 3) := by decide +kernel
theorem dJ5_setLength_d00df_37 : decode cJ5_setLength_d00df 37 = .ok (.aload_n 0, 1) := by decide +kernel
theorem dJ5_setLength_d00df_38 : decode cJ5_setLength_d00df 38 = .ok (.getfield 79, 3) := by decide +kernel
theorem dJ5_setLength_d00df_41 : decode cJ5_setLength_d00df 41 = .ok (.iload_n 1, 1) := by decide +kernel
theorem dJ5_setLength_d00df_42 : decode cJ5_setLength_d00df 42 = .ok (.invokestatic 133, 3) := by decide +kernel
theorem dJ5_setLength_d00df_45 : decode cJ5_setLength_d00df 45 = .ok (.goto 31, 3) := by decide +kernel
theorem dJ5_setLength_d00df_48 : decode cJ5_setLength_d00df 48 = .ok (.aload_n 0, 1) := by decide +kernel
theorem dJ5_setLength_d00df_49 : decode cJ5_setLength_d00df 49 = .ok (.getfield 15, 3) := by decide +kernel
theorem dJ5_setLength_d00df_52 : decode cJ5_setLength_d00df 52 = .ok (.aload_n 0, 1) := by decide +kernel
theorem dJ5_setLength_d00df_53 : decode cJ5_setLength_d00df 53 = .ok (.getfield 79, 3) := by decide +kernel
theorem dJ5_setLength_d00df_56 : decode cJ5_setLength_d00df 56 = .ok (.iload_n 1, 1) := by decide +kernel
theorem dJ5_setLength_d00df_57 : decode cJ5_setLength_d00df 57 = .ok (.invokestatic 137, 3) := by decide +kernel
theorem dJ5_setLength_d00df_60 : decode cJ5_setLength_d00df 60 = .ok (.goto 16, 3) := by decide +kernel
theorem dJ5_setLength_d00df_63 : decode cJ5_setLength_d00df 63 = .ok (.aload_n 0, 1) := by decide +kernel
theorem dJ5_setLength_d00df_64 : decode cJ5_setLength_d00df 64 = .ok (.getfield 79, 3) := by decide +kernel
theorem dJ5_setLength_d00df_67 : decode cJ5_setLength_d00df 67 = .ok (.iload_n 1, 1) := by decide +kernel
theorem dJ5_setLength_d00df_68 : decode cJ5_setLength_d00df 68 = .ok (.if_icmp .le 8, 3) := by decide +kernel
theorem dJ5_setLength_d00df_71 : decode cJ5_setLength_d00df 71 = .ok (.aload_n 0, 1) := by decide +kernel
theorem dJ5_setLength_d00df_72 : decode cJ5_setLength_d00df 72 = .ok (.iconst 1, 1) := by decide +kernel
theorem dJ5_setLength_d00df_73 : decode cJ5_setLength_d00df 73 = .ok (.putfield 73, 3) := by decide +kernel
theorem dJ5_setLength_d00df_76 : decode cJ5_setLength_d00df 76 = .ok (.aload_n 0, 1) := by decide +kernel
theorem dJ5_setLength_d00df_77 : decode cJ5_setLength_d00df 77 = .ok (.iload_n 1, 1) := by decide +kernel
theorem dJ5_setLength_d00df_78 : decode cJ5_setLength_d00df 78 = .ok (.putfield 79, 3) := by decide +kernel
theorem dJ5_setLength_d00df_81 : decode cJ5_setLength_d00df 81 = .ok (.return_, 1) := by decide +kernel
/-- java/lang/AbstractStringBuilder.setLength(I)V -/
def M_J5_setLength_d00df : xM := (yJ5_setLength_d00df, cJ5_setLength_d00df, 2, none, Cond.code yJ5_setLength_d00df cJ5_setLength_d00df 2 none :: (xPv ++ xAll), { frames := 8, cells := 1, slots := 122, locals := 160 }, (1, 122), [])
theorem s_J5_setLength_d00df_100 : xSpriv M_J5_setLength_d00df M_J5_ensureCapacityInternal_d00df 100 1 := fun s args hts => ⟨liftB (callB_of 1 (htsP hts) (xGood bw27) rfl rfl rfl (hts _ (mP (bw19))) (hts _ (mP (bw28))) (by decide +kernel) ⟨Nat.le_of_ble_eq_true rfl, Nat.le_of_ble_eq_true rfl⟩) (htsQ hts), (hts _ (mP (bw29))), htsQ hts _ (List.mem_of_getElem? (i := 0) rfl), "java/lang/StringBuilder", ({ cls := "java/lang/AbstractStringBuilder", name := "isLatin1", desc := "()Z" } : Jvm.MethodName), (hts _ (mP (bw22))), rfl⟩
theorem f_J5_setLength_d00df_79 : xFl2 M_J5_setLength_d00df 79 1 3 (tyJ4 3) := ⟨RJ4, TJ4, 4, tyJ4, rfl, by decide, fun w h => mP (inJ4 w h), mP (bw2), tyJ4_ok, nmJ4, rfl, rfl⟩
theorem s_J5_setLength_d00df_83 : xSvC M_J5_setLength_d00df M_J5_isLatin1_aae02 "java/lang/StringBuilder" 83 0 := fun s args hts => ⟨callB_of 0 (htsP hts) (xGood bw30) rfl rfl rfl (hts _ (mP (bw19))) (hts _ (mP (bw31))) (by decide +kernel) ⟨Nat.le_of_ble_eq_true rfl, Nat.le_of_ble_eq_true rfl⟩, (hts _ (mP (bw32))), (hts _ (mP (bw22)))⟩
theorem f_J5_setLength_d00df_15 : xFl2 M_J5_setLength_d00df 15 1 0 (tyJ4 0) := ⟨RJ4, TJ4, 4, tyJ4, rfl, by decide, fun w h => mP (inJ4 w h), mP (bw8), tyJ4_ok, nmJ4, rfl, rfl⟩
theorem bw81 : (Jvm.Cond.fieldLink "java/lang/AbstractStringBuilder" (73 : Nat) "java/lang/AbstractStringBuilder" "maybeLatin1" "Z") ∈ xAll := xin2 (List.mem_of_getElem? (i := 41) (by decide +kernel)) (by decide +kernel)
theorem f_J5_setLength_d00df_73 : xFl2 M_J5_setLength_d00df 73 1 2 (tyJ4 2) := ⟨RJ4, TJ4, 4, tyJ4, rfl, by decide, fun w h => mP (inJ4 w h), mP (bw81), tyJ4_ok, nmJ4, rfl, rfl⟩
set_option maxRecDepth 100000 in
set_option maxHeartbeats 4000000 in
theorem ct_J5_setLength_d00df {E : xE} {Po : xPo} {w : xW} {b : Nat} {va cap : Nat} {ml ct : Int32} {f : Nat → Int32} (H : HB E w b (va, cap, ml, ct, f)) {l : List Int32} (hL : hasL (va, cap, ml, ct, f) l) (hn : l.length < 1000) (hp : ∀ (u : xW) (B2 : xBd), HB E u b B2 → hasL B2 [] → FB w u b (va, cap, ml, ct, f) B2 → Po (.inl none) u) : Ct M_J5_setLength_d00df E [.ref b, .int 0] w Po := by
  refine Ct.of (ws2 := xPv ++ xAll) (L := [some (.ref b), some (.int 0)]) (by decide +kernel) rfl rfl (List.forall_mem_cons.mpr ⟨rfl, List.forall_mem_cons.mpr ⟨rfl, fun _ h => absurd h List.not_mem_nil⟩⟩) (Nat.le_of_ble_eq_true rfl) rfl ?_
  obtain rfl : ct = nI l.length := hL.1
  refine r_iload_n (q := 1) dJ5_setLength_d00df_0 rfl rfl rfl ?_
  refine r_if_ge (q := 13) (q2 := 4) dJ5_setLength_d00df_1 (by decide) rfl (fun _ => ?_) (fun h9 => absurd (by decide) h9)
  refine r_aload_n (q := 14) dJ5_setLength_d00df_13 rfl rfl rfl ?_
  refine r_iload_n (q := 15) dJ5_setLength_d00df_14 rfl rfl rfl ?_
  refine r_callP (q := 18) (ci := 1) (As := [_]) dJ5_setLength_d00df_15 s_J5_setLength_d00df_100 H.1 rfl rfl (Nat.le_of_ble_eq_true rfl) rfl rfl rfl (Nat.le_of_ble_eq_true rfl) (Nat.le_of_ble_eq_true rfl) ⟨(Nat.le_of_ble_eq_true rfl), (Nat.le_of_ble_eq_true rfl)⟩ rfl ?_
  refine ct_J5_ensureCapacityInternal_d00df (z := 0) H hL (by omega) (fun u B2 H2 L2 F2 c2 => ?_)
  show WF _ E Po _ _ _ _ _ _ _
  obtain ⟨va2, cap2, ml2, ct2, f2⟩ := B2
  obtain rfl : ct2 = nI l.length := L2.1
  have hcap2 : cap2 ≤ 125 := L2.2.2.1.2
  have hbva : b < va2 := H2.2.2.1
  change _ ≤ cap2 at c2
  refine r_aload_n (q := 19) dJ5_setLength_d00df_18 rfl rfl rfl ?_
  refine r_getfS (q := 22) dJ5_setLength_d00df_19 f_J5_setLength_d00df_79 H2.1 rfl rfl ?_
  refine r_iload_n (q := 23) dJ5_setLength_d00df_22 rfl rfl rfl ?_
  refine r_icmp_ge (q := 63) (q2 := 26) dJ5_setLength_d00df_23 (by decide) rfl (fun _ => ?_) (fun h9 => absurd (nI_pos' (by omega)) h9)
  refine r_aload_n (q := 64) dJ5_setLength_d00df_63 rfl rfl rfl ?_
  refine r_getfS (q := 67) dJ5_setLength_d00df_64 f_J5_setLength_d00df_79 H2.1 rfl rfl ?_
  refine r_iload_n (q := 68) dJ5_setLength_d00df_67 rfl rfl rfl ?_
  refine r_icmp_le (q := 76) (q2 := 71) dJ5_setLength_d00df_68 (by decide) rfl (fun h68 => ?_) (fun h68 => ?_)
  · have hv : u.1 b = some (sbdE va2 ml2 (nI l.length)) := H2.1
    have hQ : HB E (xset u b (sbdE va2 ml2 (nI 0))) b (va2, cap2, ml2, nI 0, f2) := HB.putC H2
    have hG : FB w (xset u b (sbdE va2 ml2 (nI 0))) b (va, cap, ml, nI l.length, f) (va2, cap2, ml2, nI 0, f2) := FB.putC F2
    refine r_aload_n (q := 77) dJ5_setLength_d00df_76 rfl rfl rfl ?_
    refine r_iload_n (q := 78) dJ5_setLength_d00df_77 rfl rfl rfl ?_
    refine r_putfS (q := 81) dJ5_setLength_d00df_78 f_J5_setLength_d00df_79 hv rfl rfl (Nat.le_of_ble_eq_true rfl) rfl ?_
    exact r_vret dJ5_setLength_d00df_81 rfl (Nat.le_of_ble_eq_true rfl) (Nat.le_of_ble_eq_true rfl) (hp _ _ hQ ⟨rfl, Nat.zero_le _, L2.2.2.1, fun j hj => absurd hj (Nat.not_lt_zero _), (fun _ h => absurd h List.not_mem_nil), L2.2.2.2.2.2⟩ hG)
  · refine r_aload_n (q := 72) dJ5_setLength_d00df_71 rfl rfl rfl ?_
    refine r_iconst (q := 73) (v := 1) dJ5_setLength_d00df_72 rfl rfl ?_
    refine r_putfS (q := 76) dJ5_setLength_d00df_73 f_J5_setLength_d00df_73 H2.1 rfl rfl (Nat.le_of_ble_eq_true rfl) rfl ?_
    refine WF.cw (show xset u b _ = xset u b (sbdE va2 1 (nI l.length)) from rfl) ?_
    have hv : (xset u b (sbdE va2 1 (nI l.length))).1 b = some (sbdE va2 1 (nI l.length)) := xset_s
    have hQ : HB E (xset (xset u b (sbdE va2 1 (nI l.length))) b (sbdE va2 1 (nI 0))) b (va2, cap2, 1, nI 0, f2) := HB.putC (HB.putC H2)
    have hG : FB w (xset (xset u b (sbdE va2 1 (nI l.length))) b (sbdE va2 1 (nI 0))) b (va, cap, ml, nI l.length, f) (va2, cap2, 1, nI 0, f2) := ⟨F2.1, fun a ha hb hl => (xset_o ha).trans ((xset_o ha).trans (F2.2.1 a ha hb hl)), F2.2.2⟩
    refine r_aload_n (q := 77) dJ5_setLength_d00df_76 rfl rfl rfl ?_
    refine r_iload_n (q := 78) dJ5_setLength_d00df_77 rfl rfl rfl ?_
    refine r_putfS (q := 81) dJ5_setLength_d00df_78 f_J5_setLength_d00df_79 hv rfl rfl (Nat.le_of_ble_eq_true rfl) rfl ?_
    exact r_vret dJ5_setLength_d00df_81 rfl (Nat.le_of_ble_eq_true rfl) (Nat.le_of_ble_eq_true rfl) (hp _ _ hQ ⟨rfl, Nat.zero_le _, L2.2.2.1, fun j hj => absurd hj (Nat.not_lt_zero _), (fun _ h => absurd h List.not_mem_nil), L2.2.2.2.2.2⟩ hG)
theorem dJ4_setLength_d00df_0 : decode cJ4_setLength_d00df 0 = .ok (.aload_n 0, 1) := by decide +kernel
theorem dJ4_setLength_d00df_1 : decode cJ4_setLength_d00df 1 = .ok (.iload_n 1, 1) := by decide +kernel
theorem dJ4_setLength_d00df_2 : decode cJ4_setLength_d00df 2 = .ok (.invokespecial 333, 3) := by decide +kernel
theorem dJ4_setLength_d00df_5 : decode cJ4_setLength_d00df 5 = .ok (.return_, 1) := by decide +kernel
/-- java/lang/StringBuilder.setLength(I)V -/
def M_J4_setLength_d00df : xM := (yJ4_setLength_d00df, cJ4_setLength_d00df, 2, none, Cond.code yJ4_setLength_d00df cJ4_setLength_d00df 2 none :: (xPv ++ xAll), { frames := 9, cells := 1, slots := 122, locals := 181 }, (1, 122), [])
theorem bw82 : (Jvm.Cond.code ({ cls := "java/lang/AbstractStringBuilder", name := "setLength", desc := "(I)V" } : Jvm.MethodName) prog_14_method_13_code (2 : Nat) (Option.none : Option Jvm.ClassFile.FieldType)) ∈ xAll := xin5 (List.mem_of_getElem? (i := 150) (by decide +kernel)) (by decide +kernel)
theorem bw83 : (Jvm.Cond.methodLink "java/lang/StringBuilder" (333 : Nat) ({ cls := "java/lang/AbstractStringBuilder", name := "setLength", desc := "(I)V" } : Jvm.MethodName)) ∈ xAll := xin5 (List.mem_of_getElem? (i := 148) (by decide +kernel)) (by decide +kernel)
theorem bw84 : (Jvm.Cond.sameMethod "java/lang/AbstractStringBuilder" "java/lang/AbstractStringBuilder" "setLength" "(I)V") ∈ xAll := xin6 (List.mem_of_getElem? (i := 212) (by decide +kernel)) (by decide +kernel)
theorem bw85 : (Jvm.Cond.instanceMethod ({ cls := "java/lang/AbstractStringBuilder", name := "setLength", desc := "(I)V" } : Jvm.MethodName)) ∈ xAll := xin5 (List.mem_of_getElem? (i := 149) (by decide +kernel)) (by decide +kernel)
theorem s_J4_setLength_d00df_333 : xSuper M_J4_setLength_d00df M_J5_setLength_d00df 333 1 := fun s args hts => liftS (va_cwSU 1 (htsP hts) (xGSU bw83 bw84 bw40 bw85 bw19 bw82) rfl rfl rfl (by decide +kernel) ⟨Nat.le_of_ble_eq_true rfl, Nat.le_of_ble_eq_true rfl⟩) (htsQ hts)
set_option maxRecDepth 100000 in
set_option maxHeartbeats 4000000 in
theorem ct_J4_setLength_d00df {E : xE} {Po : xPo} {w : xW} {b : Nat} {va cap : Nat} {ml ct : Int32} {f : Nat → Int32} (H : HB E w b (va, cap, ml, ct, f)) {l : List Int32} (hL : hasL (va, cap, ml, ct, f) l) (hn : l.length < 1000) (hp : ∀ (u : xW) (B2 : xBd), HB E u b B2 → hasL B2 [] → FB w u b (va, cap, ml, ct, f) B2 → Po (.inl none) u) : Ct M_J4_setLength_d00df E [.ref b, .int 0] w Po := by
  refine Ct.of (ws2 := xPv ++ xAll) (L := [some (.ref b), some (.int 0)]) (by decide +kernel) rfl rfl (List.forall_mem_cons.mpr ⟨rfl, List.forall_mem_cons.mpr ⟨rfl, fun _ h => absurd h List.not_mem_nil⟩⟩) (Nat.le_of_ble_eq_true rfl) rfl ?_
  refine r_aload_n (q := 1) dJ4_setLength_d00df_0 rfl rfl rfl ?_
  refine r_iload_n (q := 2) dJ4_setLength_d00df_1 rfl rfl rfl ?_
  refine r_callSp (q := 5) (ci := 1) (As := [_]) dJ4_setLength_d00df_2 s_J4_setLength_d00df_333 H.1 rfl (Nat.le_of_ble_eq_true rfl) rfl rfl rfl ⟨(Nat.le_of_ble_eq_true rfl), (Nat.le_of_ble_eq_true rfl)⟩ rfl ?_
  refine ct_J5_setLength_d00df H hL hn (fun u B2 H2 L2 F2 => ?_)
  show WF _ E Po _ _ _ _ _ _ _
  refine r_vret dJ4_setLength_d00df_5 rfl (Nat.le_of_ble_eq_true rfl) (Nat.le_of_ble_eq_true rfl) ?_
  exact hp u B2 H2 L2 F2
theorem dJ4_length_8abf5_0 : decode cJ4_length_8abf5 0 = .ok (.aload_n 0, 1) := by decide +kernel
theorem dJ4_length_8abf5_1 : decode cJ4_length_8abf5 1 = .ok (.invokespecial 343, 3) := by decide +kernel
theorem dJ4_length_8abf5_4 : decode cJ4_length_8abf5 4 = .ok (.ireturn, 1) := by decide +kernel
/-- java/lang/StringBuilder.length()I -/
def M_J4_length_8abf5 : xM := (yJ4_length_8abf5, cJ4_length_8abf5, 1, (some FieldType.int), Cond.code yJ4_length_8abf5 cJ4_length_8abf5 1 (some FieldType.int) :: xAll, { frames := 6, cells := 0, slots := 0, locals := 110 }, (0, 0), [])
theorem bw86 : (Jvm.Cond.code ({ cls := "java/lang/AbstractStringBuilder", name := "length", desc := "()I" } : Jvm.MethodName) prog_14_method_6_code (1 : Nat) (Option.some Jvm.ClassFile.FieldType.int)) ∈ xAll := xin5 (List.mem_of_getElem? (i := 99) (by decide +kernel)) (by decide +kernel)
theorem bw87 : (Jvm.Cond.methodLink "java/lang/StringBuilder" (343 : Nat) ({ cls := "java/lang/AbstractStringBuilder", name := "length", desc := "()I" } : Jvm.MethodName)) ∈ xAll := xin5 (List.mem_of_getElem? (i := 98) (by decide +kernel)) (by decide +kernel)
theorem bw88 : (Jvm.Cond.sameMethod "java/lang/AbstractStringBuilder" "java/lang/AbstractStringBuilder" "length" "()I") ∈ xAll := xin5 (List.mem_of_getElem? (i := 94) (by decide +kernel)) (by decide +kernel)
theorem bw89 : (Jvm.Cond.instanceMethod ({ cls := "java/lang/AbstractStringBuilder", name := "length", desc := "()I" } : Jvm.MethodName)) ∈ xAll := xin5 (List.mem_of_getElem? (i := 93) (by decide +kernel)) (by decide +kernel)
theorem s_J4_length_8abf5_343 : xSuper M_J4_length_8abf5 M_J5_length_8abf5 343 0 := fun s args hts => va_cwSU 0 hts (xGSU bw87 bw88 bw40 bw89 bw19 bw86) rfl rfl rfl (by decide +kernel) ⟨Nat.le_of_ble_eq_true rfl, Nat.le_of_ble_eq_true rfl⟩
set_option maxRecDepth 100000 in
set_option maxHeartbeats 4000000 in
theorem ct_J4_length_8abf5 {E : xE} {Po : xPo} {w : xW} {b : Nat} {va cap : Nat} {ml ct : Int32} {f : Nat → Int32} (H : HB E w b (va, cap, ml, ct, f)) (hp : Po (.inl (some (.int ct))) w) : Ct M_J4_length_8abf5 E [.ref b] w Po := by
  refine Ct.of (ws2 := xAll) (L := [some (.ref b)]) (by decide +kernel) rfl rfl (List.forall_mem_cons.mpr ⟨rfl, fun _ h => absurd h List.not_mem_nil⟩) (Nat.le_of_ble_eq_true rfl) rfl ?_
  refine r_aload_n (q := 1) dJ4_length_8abf5_0 rfl rfl rfl ?_
  refine r_callSp (q := 4) (ci := 1) (As := []) dJ4_length_8abf5_1 s_J4_length_8abf5_343 H.1 rfl (Nat.le_of_ble_eq_true rfl) rfl rfl rfl ⟨(Nat.le_of_ble_eq_true rfl), (Nat.le_of_ble_eq_true rfl)⟩ rfl ?_
  refine ct_J5_length_8abf5 H ?_
  show WF _ E Po _ _ _ _ _ _ _
  refine r_iret dJ4_length_8abf5_4 rfl (Nat.le_of_ble_eq_true rfl) (Nat.le_of_ble_eq_true rfl) ?_
  exact hp
theorem dJ5_charAt_5068e_0 : decode cJ5_charAt_5068e 0 = .ok (.aload_n 0, 1) := by decide +kernel
theorem dJ5_charAt_5068e_1 : decode cJ5_charAt_5068e 1 = .ok (.getfield 22, 3) := by decide +kernel
theorem dJ5_charAt_5068e_4 : decode cJ5_charAt_5068e 4 = .ok (.istore_n 2, 1) := by decide +kernel
theorem dJ5_charAt_5068e_5 : decode cJ5_charAt_5068e 5 = .ok (.aload_n 0, 1) := by decide +kernel
theorem dJ5_charAt_5068e_6 : decode cJ5_charAt_5068e 6 = .ok (.getfield 15, 3) := by decide +kernel
theorem dJ5_charAt_5068e_9 : decode cJ5_charAt_5068e 9 = .ok (.astore_n 3, 1) := by decide +kernel
theorem dJ5_charAt_5068e_10 : decode cJ5_charAt_5068e 10 = .ok (.aload_n 0, 1) := by decide +kernel
theorem dJ5_charAt_5068e_11 : decode cJ5_charAt_5068e 11 = .ok (.getfield 79, 3) := by decide +kernel
theorem dJ5_charAt_5068e_14 : decode cJ5_charAt_5068e 14 = .ok (.aload_n 3, 1) := by decide +kernel
theorem dJ5_charAt_5068e_15 : decode cJ5_charAt_5068e 15 = .ok (.arraylength, 1) := by decide +kernel
theorem dJ5_charAt_5068e_16 : decode cJ5_charAt_5068e 16 = .ok (.iload_n 2, 1) := by decide +kernel
theorem dJ5_charAt_5068e_17 : decode cJ5_charAt_5068e 17 = .ok (.ishr, 1) := by decide +kernel
theorem dJ5_charAt_5068e_18 : decode cJ5_charAt_5068e 18 = .ok (.invokestatic 138, 3) := by decide +kernel
theorem dJ5_charAt_5068e_21 : decode cJ5_charAt_5068e 21 = .ok (.istore 4, 2) := by decide +kernel
theorem dJ5_charAt_5068e_23 : decode cJ5_charAt_5068e 23 = .ok (.iload_n 1, 1) := by decide +kernel
theorem dJ5_charAt_5068e_24 : decode cJ5_charAt_5068e 24 = .ok (.iload 4, 2) := by decide +kernel
theorem dJ5_charAt_5068e_26 : decode cJ5_charAt_5068e 26 = .ok (.invokestatic 144, 3) := by decide +kernel
theorem dJ5_charAt_5068e_29 : decode cJ5_charAt_5068e 29 = .ok (.iload_n 2, 1) := by decide +kernel
theorem dJ5_charAt_5068e_30 : decode cJ5_charAt_5068e 30 = .ok (.ifCond .ne 12, 3) := by decide +kernel
theorem dJ5_charAt_5068e_33 : decode cJ5_charAt_5068e 33 = .ok (.aload_n 3, 1) := by decide +kernel
theorem dJ5_charAt_5068e_34 : decode cJ5_charAt_5068e 34 = .ok (.iload_n 1, 1) := by decide +kernel
theorem dJ5_charAt_5068e_35 : decode cJ5_charAt_5068e 35 = .ok (.baload, 1) := by decide +kernel
theorem dJ5_charAt_5068e_36 : decode cJ5_charAt_5068e 36 = .ok (.sipush 255, 3) := by decide +kernel
theorem dJ5_charAt_5068e_39 : decode cJ5_charAt_5068e 39 = .ok (.iand, 1) := by decide +kernel
theorem dJ5_charAt_5068e_40 : decode cJ5_charAt_5068e 40 = .ok (.i2c, 1) := by decide +kernel
theorem dJ5_charAt_5068e_41 : decode cJ5_charAt_5068e 41 = .ok (.ireturn, 1) := by decide +kernel
theorem dJ5_charAt_5068e_42 : decode cJ5_charAt_5068e 42 = .ok (.aload_n 3, 1) := by decide +kernel
theorem dJ5_charAt_5068e_43 : decode cJ5_charAt_5068e 43 = .ok (.iload_n 1, 1) := by decide +kernel
theorem dJ5_charAt_5068e_44 : decode cJ5_charAt_5068e 44 = .ok (.invokestatic 148, 3) := by decide +kernel
theorem dJ5_charAt_5068e_47 : decode cJ5_charAt_5068e 47 = .ok (.ireturn, 1) := by decide +kernel
/-- java/lang/AbstractStringBuilder.charAt(I)C -/
def M_J5_charAt_5068e : xM := (yJ5_charAt_5068e, cJ5_charAt_5068e, 5, (some FieldType.char), Cond.code yJ5_charAt_5068e cJ5_charAt_5068e 5 (some FieldType.char) :: xAll, { frames := 5, cells := 0, slots := 0, locals := 90 }, (0, 0), [])
theorem f_J5_charAt_5068e_22 : xFl2 M_J5_charAt_5068e 22 1 1 (tyJ4 1) := ⟨RJ4, TJ4, 4, tyJ4, rfl, by decide, fun w h => List.mem_cons_of_mem _ (inJ4 w h), List.mem_cons_of_mem _ (bw1), tyJ4_ok, nmJ4, rfl, rfl⟩
theorem f_J5_charAt_5068e_15 : xFl2 M_J5_charAt_5068e 15 1 0 (tyJ4 0) := ⟨RJ4, TJ4, 4, tyJ4, rfl, by decide, fun w h => List.mem_cons_of_mem _ (inJ4 w h), List.mem_cons_of_mem _ (bw8), tyJ4_ok, nmJ4, rfl, rfl⟩
theorem f_J5_charAt_5068e_79 : xFl2 M_J5_charAt_5068e 79 1 3 (tyJ4 3) := ⟨RJ4, TJ4, 4, tyJ4, rfl, by decide, fun w h => List.mem_cons_of_mem _ (inJ4 w h), List.mem_cons_of_mem _ (bw2), tyJ4_ok, nmJ4, rfl, rfl⟩
theorem bw90 : (Jvm.Cond.methodLink "java/lang/AbstractStringBuilder" (138 : Nat) ({ cls := "java/lang/Math", name := "min", desc := "(II)I" } : Jvm.MethodName)) ∈ xAll := xin5 (List.mem_of_getElem? (i := 221) (by decide +kernel)) (by decide +kernel)
theorem p_J5_charAt_5068e_138 : xMm M_J5_charAt_5068e 138 := ⟨List.mem_cons_of_mem _ (bw90), List.mem_cons_of_mem _ (bw14), List.mem_cons_of_mem _ (bw4), List.mem_cons_of_mem _ (bw15), Nat.le_of_ble_eq_true rfl, Nat.le_of_ble_eq_true rfl, rfl, rfl⟩
theorem bw91 : (Jvm.Cond.code ({ cls := "java/lang/String", name := "checkIndex", desc := "(II)V" } : Jvm.MethodName) prog_30_method_155_code (2 : Nat) (Option.none : Option Jvm.ClassFile.FieldType)) ∈ xAll := xin5 (List.mem_of_getElem? (i := 28) (by decide +kernel)) (by decide +kernel)
theorem bw92 : (Jvm.Cond.methodLink "java/lang/AbstractStringBuilder" (144 : Nat) ({ cls := "java/lang/String", name := "checkIndex", desc := "(II)V" } : Jvm.MethodName)) ∈ xAll := xin5 (List.mem_of_getElem? (i := 222) (by decide +kernel)) (by decide +kernel)
theorem bw93 : (Jvm.Cond.static ({ cls := "java/lang/String", name := "checkIndex", desc := "(II)V" } : Jvm.MethodName)) ∈ xAll := xin5 (List.mem_of_getElem? (i := 27) (by decide +kernel)) (by decide +kernel)
theorem s_J5_charAt_5068e_144 : xSs M_J5_charAt_5068e M_J0_checkIndex_df160 144 2 := fun s args hts => ⟨callB_of 2 hts (xGood bw91) rfl rfl rfl (hts _ (List.mem_cons_of_mem _ (bw56))) (hts _ (List.mem_cons_of_mem _ (bw92))) (by decide +kernel) ⟨Nat.le_of_ble_eq_true rfl, Nat.le_of_ble_eq_true rfl⟩, (hts _ (List.mem_cons_of_mem _ (bw93)))⟩
set_option maxRecDepth 100000 in
set_option maxHeartbeats 4000000 in
theorem ct_J5_charAt_5068e {E : xE} {Po : xPo} {w : xW} {b : Nat} {va cap : Nat} {ml ct : Int32} {f : Nat → Int32} (H : HB E w b (va, cap, ml, ct, f)) {l : List Int32} (hL : hasL (va, cap, ml, ct, f) l) {j : Nat} (hj : j < l.length) (hp : Po (.inl (some (.int (l.getD j 0)))) w) : Ct M_J5_charAt_5068e E [.ref b, .int (nI j)] w Po := by
  refine Ct.of (ws2 := xAll) (L := [some (.ref b), some (.int (nI j)), none, none, none]) (by decide +kernel) rfl rfl (List.forall_mem_cons.mpr ⟨rfl, List.forall_mem_cons.mpr ⟨rfl, fun _ h => absurd h List.not_mem_nil⟩⟩) (Nat.le_of_ble_eq_true rfl) rfl ?_
  obtain rfl : ct = nI l.length := hL.1
  have hc1 : l.length ≤ cap := hL.2.1
  have hc2 : cap ≤ 125 := hL.2.2.1.2
  have hB : okB (l.getD j 0) := by
    rw [List.getD_eq_getElem?_getD, List.getElem?_eq_getElem hj, Option.getD_some]
    exact hL.2.2.2.2.1 _ (List.getElem_mem hj)
  refine r_aload_n (q := 1) dJ5_charAt_5068e_0 rfl rfl rfl ?_
  refine r_getfS (q := 4) dJ5_charAt_5068e_1 f_J5_charAt_5068e_22 H.1 rfl rfl ?_
  refine r_istore_n (q := 5) dJ5_charAt_5068e_4 rfl (Nat.le_of_ble_eq_true rfl) (xone_of rfl) rfl ?_
  refine r_aload_n (q := 6) dJ5_charAt_5068e_5 rfl rfl rfl ?_
  refine r_getfS (q := 9) dJ5_charAt_5068e_6 f_J5_charAt_5068e_15 H.1 rfl rfl ?_
  refine r_astore_n (q := 10) dJ5_charAt_5068e_9 rfl (Nat.le_of_ble_eq_true rfl) (xone_of rfl) rfl ?_
  refine r_aload_n (q := 11) dJ5_charAt_5068e_10 rfl rfl rfl ?_
  refine r_getfS (q := 14) dJ5_charAt_5068e_11 f_J5_charAt_5068e_79 H.1 rfl rfl ?_
  refine r_aload_n (q := 15) dJ5_charAt_5068e_14 rfl rfl rfl ?_
  refine r_alen (q := 16) (t0 := 7) dJ5_charAt_5068e_15 rfl H.2.1 rfl ?_
  show WF _ E Po _ _ _ (.int (nI cap) :: _) _ _ _
  refine r_iload_n (q := 17) dJ5_charAt_5068e_16 rfl rfl rfl ?_
  refine r_ishr (q := 18) dJ5_charAt_5068e_17 rfl ?_
  rw [sb_shr0]
  refine r_mmin (q := 21) dJ5_charAt_5068e_18 p_J5_charAt_5068e_138 (Nat.le_of_ble_eq_true rfl) rfl (Nat.le_of_ble_eq_true rfl) (Nat.le_of_ble_eq_true rfl) ?_
  rw [mn_nI hc1 (by omega)]
  refine r_istore (q := 23) dJ5_charAt_5068e_21 (Nat.le_of_ble_eq_true rfl) (xone_of rfl) rfl ?_
  refine r_iload_n (q := 24) dJ5_charAt_5068e_23 rfl rfl rfl ?_
  refine r_iload (q := 26) dJ5_charAt_5068e_24 rfl rfl ?_
  refine r_callS (q := 29) (As := [_, _]) dJ5_charAt_5068e_26 s_J5_charAt_5068e_144 rfl rfl (Nat.le_of_ble_eq_true rfl) rfl rfl rfl (Nat.le_of_ble_eq_true rfl) (Nat.le_of_ble_eq_true rfl) ⟨(Nat.le_of_ble_eq_true rfl), (Nat.le_of_ble_eq_true rfl)⟩ rfl ?_
  refine ct_J0_checkIndex_df160 (nI_pos (by omega)) (nI_lt hj (by omega)) ?_
  show WF _ E Po _ _ _ _ _ _ _
  refine r_iload_n (q := 30) dJ5_charAt_5068e_29 rfl rfl rfl ?_
  refine r_if_ne (q := 42) (q2 := 33) dJ5_charAt_5068e_30 (by decide) rfl (fun h9 => absurd rfl h9) (fun _ => ?_)
  refine r_aload_n (q := 34) dJ5_charAt_5068e_33 rfl rfl rfl ?_
  refine r_iload_n (q := 35) dJ5_charAt_5068e_34 rfl rfl rfl ?_
  refine r_baload (q := 36) dJ5_charAt_5068e_35 H.2.1 (vp_in_nI (show j < cap by omega) (show cap < 2147483648 by omega)) rfl ?_
  rw [nI_cl (by omega), show (va, cap, ml, nI l.length, f).2.2.2.2 j = l.getD j 0 from hL.2.2.2.1 j hj]
  refine r_sipush (q := 39) (v := 255) dJ5_charAt_5068e_36 (by decide) rfl ?_
  refine r_iand (q := 40) dJ5_charAt_5068e_39 rfl ?_
  refine r_i2c (q := 41) dJ5_charAt_5068e_40 rfl ?_
  rw [hB.1]
  refine r_zret dJ5_charAt_5068e_41 rfl hB.2.1 (Nat.le_of_ble_eq_true rfl) (Nat.le_of_ble_eq_true rfl) ?_
  exact hp
theorem dJ4_charAt_5068e_0 : decode cJ4_charAt_5068e 0 = .ok (.aload_n 0, 1) := by decide +kernel
theorem dJ4_charAt_5068e_1 : decode cJ4_charAt_5068e 1 = .ok (.iload_n 1, 1) := by decide +kernel
theorem dJ4_charAt_5068e_2 : decode cJ4_charAt_5068e 2 = .ok (.invokespecial 329, 3) := by decide +kernel
theorem dJ4_charAt_5068e_5 : decode cJ4_charAt_5068e 5 = .ok (.ireturn, 1) := by decide +kernel
/-- java/lang/StringBuilder.charAt(I)C -/
def M_J4_charAt_5068e : xM := (yJ4_charAt_5068e, cJ4_charAt_5068e, 2, (some FieldType.char), Cond.code yJ4_charAt_5068e cJ4_charAt_5068e 2 (some FieldType.char) :: xAll, { frames := 6, cells := 0, slots := 0, locals := 114 }, (0, 0), [])
theorem bw94 : (Jvm.Cond.code ({ cls := "java/lang/AbstractStringBuilder", name := "charAt", desc := "(I)C" } : Jvm.MethodName) prog_14_method_14_code (5 : Nat) (Option.some Jvm.ClassFile.FieldType.char)) ∈ xAll := xin5 (List.mem_of_getElem? (i := 220) (by decide +kernel)) (by decide +kernel)
theorem bw95 : (Jvm.Cond.methodLink "java/lang/StringBuilder" (329 : Nat) ({ cls := "java/lang/AbstractStringBuilder", name := "charAt", desc := "(I)C" } : Jvm.MethodName)) ∈ xAll := xin5 (List.mem_of_getElem? (i := 218) (by decide +kernel)) (by decide +kernel)
theorem bw96 : (Jvm.Cond.sameMethod "java/lang/AbstractStringBuilder" "java/lang/AbstractStringBuilder" "charAt" "(I)C") ∈ xAll := xin6 (List.mem_of_getElem? (i := 214) (by decide +kernel)) (by decide +kernel)
theorem bw97 : (Jvm.Cond.instanceMethod ({ cls := "java/lang/AbstractStringBuilder", name := "charAt", desc := "(I)C" } : Jvm.MethodName)) ∈ xAll := xin5 (List.mem_of_getElem? (i := 219) (by decide +kernel)) (by decide +kernel)
theorem s_J4_charAt_5068e_329 : xSuper M_J4_charAt_5068e M_J5_charAt_5068e 329 1 := fun s args hts => va_cwSU 1 hts (xGSU bw95 bw96 bw40 bw97 bw19 bw94) rfl rfl rfl (by decide +kernel) ⟨Nat.le_of_ble_eq_true rfl, Nat.le_of_ble_eq_true rfl⟩
set_option maxRecDepth 100000 in
set_option maxHeartbeats 4000000 in
theorem ct_J4_charAt_5068e {E : xE} {Po : xPo} {w : xW} {b : Nat} {va cap : Nat} {ml ct : Int32} {f : Nat → Int32} (H : HB E w b (va, cap, ml, ct, f)) {l : List Int32} (hL : hasL (va, cap, ml, ct, f) l) {j : Nat} (hj : j < l.length) (hp : Po (.inl (some (.int (l.getD j 0)))) w) : Ct M_J4_charAt_5068e E [.ref b, .int (nI j)] w Po := by
  refine Ct.of (ws2 := xAll) (L := [some (.ref b), some (.int (nI j))]) (by decide +kernel) rfl rfl (List.forall_mem_cons.mpr ⟨rfl, List.forall_mem_cons.mpr ⟨rfl, fun _ h => absurd h List.not_mem_nil⟩⟩) (Nat.le_of_ble_eq_true rfl) rfl ?_
  refine r_aload_n (q := 1) dJ4_charAt_5068e_0 rfl rfl rfl ?_
  refine r_iload_n (q := 2) dJ4_charAt_5068e_1 rfl rfl rfl ?_
  refine r_callSp (q := 5) (ci := 1) (As := [_]) dJ4_charAt_5068e_2 s_J4_charAt_5068e_329 H.1 rfl (Nat.le_of_ble_eq_true rfl) rfl rfl rfl ⟨(Nat.le_of_ble_eq_true rfl), (Nat.le_of_ble_eq_true rfl)⟩ rfl ?_
  refine ct_J5_charAt_5068e H hL hj ?_
  show WF _ E Po _ _ _ _ _ _ _
  refine r_zret dJ4_charAt_5068e_5 rfl (by
    rw [List.getD_eq_getElem?_getD, List.getElem?_eq_getElem hj, Option.getD_some]
    exact (hL.2.2.2.2.1 _ (List.getElem_mem hj)).2.1) (Nat.le_of_ble_eq_true rfl) (Nat.le_of_ble_eq_true rfl) ?_
  exact hp
theorem dJ5_init_d00df_0 : decode cJ5_init_d00df 0 = .ok (.aload_n 0, 1) := by decide +kernel
theorem dJ5_init_d00df_1 : decode cJ5_init_d00df 1 = .ok (.invokespecial 3, 3) := by decide +kernel
theorem dJ5_init_d00df_4 : decode cJ5_init_d00df 4 = .ok (.getstatic 18, 3) := by decide +kernel
theorem dJ5_init_d00df_7 : decode cJ5_init_d00df 7 = .ok (.ifCond .eq 18, 3) := by decide +kernel
theorem dJ5_init_d00df_10 : decode cJ5_init_d00df 10 = .ok (.aload_n 0, 1) := by decide +kernel
theorem dJ5_init_d00df_11 : decode cJ5_init_d00df 11 = .ok (.iload_n 1, 1) := by decide +kernel
theorem dJ5_init_d00df_12 : decode cJ5_init_d00df 12 = .ok (.newarray .byte, 2) := by decide +kernel
theorem dJ5_init_d00df_14 : decode cJ5_init_d00df 14 = .ok (.putfield 15, 3) := by decide +kernel
theorem dJ5_init_d00df_17 : decode cJ5_init_d00df 17 = .ok (.aload_n 0, 1) := by decide +kernel
theorem dJ5_init_d00df_18 : decode cJ5_init_d00df 18 = .ok (.iconst 0, 1) := by decide +kernel
theorem dJ5_init_d00df_19 : decode cJ5_init_d00df 19 = .ok (.putfield 22, 3) := by decide +kernel
theorem dJ5_init_d00df_22 : decode cJ5_init_d00df 22 = .ok (.goto 16, 3) := by decide +kernel
theorem dJ5_init_d00df_25 : decode cJ5_init_d00df 25 = .ok (.aload_n 0, 1) := by decide +kernel
theorem dJ5_init_d00df_26 : decode cJ5_init_d00df 26 = .ok (.iload_n 1, 1) := by decide +kernel
theorem dJ5_init_d00df_27 : decode cJ5_init_d00df 27 = .ok (.invokestatic 26, 3) := by decide +kernel
theorem dJ5_init_d00df_30 : decode cJ5_init_d00df 30 = .ok (.putfield 15, 3) := by decide +kernel
theorem dJ5_init_d00df_33 : decode cJ5_init_d00df 33 = .ok (.aload_n 0, 1) := by decide +kernel
theorem dJ5_init_d00df_34 : decode cJ5_init_d00df 34 = .ok (.iconst 1, 1) := by decide +kernel
theorem dJ5_init_d00df_35 : decode cJ5_init_d00df 35 = .ok (.putfield 22, 3) := by decide +kernel
theorem dJ5_init_d00df_38 : decode cJ5_init_d00df 38 = .ok (.return_, 1) := by decide +kernel
/-- java/lang/AbstractStringBuilder.<init>(I)V -/
def M_J5_init_d00df : xM := (yJ5_init_d00df, cJ5_init_d00df, 2, none, Cond.code yJ5_init_d00df cJ5_init_d00df 2 none :: xAll, { frames := 5, cells := 1, slots := 16, locals := 90 }, (1, 16), [])
theorem bw98 : (Jvm.Cond.methodLink "java/lang/AbstractStringBuilder" (3 : Nat) ({ cls := "java/lang/Object", name := "<init>", desc := "()V" } : Jvm.MethodName)) ∈ xAll := xin2 (List.mem_of_getElem? (i := 29) (by decide +kernel)) (by decide +kernel)
theorem o_J5_init_d00df : Cond.methodLink (mY M_J5_init_d00df).cls 3 Lib.objectInit ∈ mW M_J5_init_d00df := List.mem_cons_of_mem _ (bw98)
theorem g_J5_init_d00df_18 : Cond.fieldLink (mY M_J5_init_d00df).cls 18 "java/lang/String" "COMPACT_STRINGS" "Z" ∈ mW M_J5_init_d00df := List.mem_cons_of_mem _ (bw0)
theorem f_J5_init_d00df_15 : xFl2 M_J5_init_d00df 15 1 0 (tyJ4 0) := ⟨RJ4, TJ4, 4, tyJ4, rfl, by decide, fun w h => List.mem_cons_of_mem _ (inJ4 w h), List.mem_cons_of_mem _ (bw8), tyJ4_ok, nmJ4, rfl, rfl⟩
theorem f_J5_init_d00df_22 : xFl2 M_J5_init_d00df 22 1 1 (tyJ4 1) := ⟨RJ4, TJ4, 4, tyJ4, rfl, by decide, fun w h => List.mem_cons_of_mem _ (inJ4 w h), List.mem_cons_of_mem _ (bw1), tyJ4_ok, nmJ4, rfl, rfl⟩
set_option maxRecDepth 100000 in
set_option maxHeartbeats 4000000 in
theorem ct_J5_init_d00df {E : xE} {Po : xPo} {w : xW} {b : Nat} (h2 : b < w.2) (hw : w.1 b = some (.inr (1, [.null, .int 0, .int 0, .int 0]))) (hp : Po (.inl none) (xset (xadd w (.inl (E.1.2 7, 16, .inl (fun _ => 0)))) b (sbdE w.2 0 0))) : Ct M_J5_init_d00df E [.ref b, .int 16] w Po := by
  refine Ct.of (ws2 := xAll) (L := [some (.ref b), some (.int 16)]) (by decide +kernel) rfl rfl (List.forall_mem_cons.mpr ⟨rfl, List.forall_mem_cons.mpr ⟨rfl, fun _ h => absurd h List.not_mem_nil⟩⟩) (Nat.le_of_ble_eq_true rfl) rfl ?_
  refine r_aload_n (q := 1) dJ5_init_d00df_0 rfl rfl rfl ?_
  refine r_objInit (q := 4) dJ5_init_d00df_1 o_J5_init_d00df (List.mem_cons_of_mem _ oi1) (List.mem_cons_of_mem _ oi2) (Nat.le_of_ble_eq_true rfl) (Nat.le_of_ble_eq_true rfl) (Nat.le_of_ble_eq_true rfl) rfl ?_
  refine r_gets (q := 7) dJ5_init_d00df_4 g_J5_init_d00df_18 (k_cs) rfl ?_
  refine r_if_eq (q := 25) (q2 := 10) dJ5_init_d00df_7 (by decide) rfl (fun h9 => absurd h9 (by decide)) (fun _ => ?_)
  refine r_aload_n (q := 11) dJ5_init_d00df_10 rfl rfl rfl ?_
  refine r_iload_n (q := 12) dJ5_init_d00df_11 rfl rfl rfl ?_
  refine r_newarray (q := 14) (ty := .byte) (t0 := 7) (N := 16) (a0 := (16, .inl (fun _ => 0))) dJ5_init_d00df_12 rfl (List.mem_cons_of_mem _ aw_byte) rfl (fun _ h => h) rfl (by decide) (by decide) (by decide) (Nat.le_of_ble_eq_true rfl) (Nat.le_of_ble_eq_true rfl) rfl ?_
  refine r_putfS (q := 17) dJ5_init_d00df_14 f_J5_init_d00df_15 ((xadd_o (Nat.ne_of_lt h2)).trans hw) rfl rfl (Nat.le_of_ble_eq_true rfl) rfl ?_
  refine r_aload_n (q := 18) dJ5_init_d00df_17 rfl rfl rfl ?_
  refine r_iconst (q := 19) (v := 0) dJ5_init_d00df_18 rfl rfl ?_
  refine r_putfS (q := 22) dJ5_init_d00df_19 f_J5_init_d00df_22 xset_s rfl rfl (Nat.le_of_ble_eq_true rfl) rfl ?_
  rw [xset_xset]
  refine r_goto (q := 38) dJ5_init_d00df_22 (by decide) ?_
  refine r_vret dJ5_init_d00df_38 rfl (Nat.le_of_ble_eq_true rfl) (Nat.le_of_ble_eq_true rfl) ?_
  exact hp
theorem dJ4_init_da8c8_0 : decode cJ4_init_da8c8 0 = .ok (.aload_n 0, 1) := by decide +kernel
theorem dJ4_init_da8c8_1 : decode cJ4_init_da8c8 1 = .ok (.bipush 16, 2) := by decide +kernel
theorem dJ4_init_da8c8_3 : decode cJ4_init_da8c8 3 = .ok (.invokespecial 1, 3) := by decide +kernel
theorem dJ4_init_da8c8_6 : decode cJ4_init_da8c8 6 = .ok (.return_, 1) := by decide +kernel
/-- java/lang/StringBuilder.<init>()V -/
def M_J4_init_da8c8 : xM := (yJ4_init_da8c8, cJ4_init_da8c8, 1, none, Cond.code yJ4_init_da8c8 cJ4_init_da8c8 1 none :: xAll, { frames := 6, cells := 1, slots := 16, locals := 111 }, (1, 16), [])
theorem bw99 : (Jvm.Cond.code ({ cls := "java/lang/AbstractStringBuilder", name := "<init>", desc := "(I)V" } : Jvm.MethodName) prog_14_method_2_code (2 : Nat) (Option.none : Option Jvm.ClassFile.FieldType)) ∈ xAll := xin2 (List.mem_of_getElem? (i := 28) (by decide +kernel)) (by decide +kernel)
theorem bw100 : (Jvm.Cond.methodLink "java/lang/StringBuilder" (1 : Nat) ({ cls := "java/lang/AbstractStringBuilder", name := "<init>", desc := "(I)V" } : Jvm.MethodName)) ∈ xAll := xin2 (List.mem_of_getElem? (i := 26) (by decide +kernel)) (by decide +kernel)
theorem bw101 : (Jvm.Cond.instanceMethod ({ cls := "java/lang/AbstractStringBuilder", name := "<init>", desc := "(I)V" } : Jvm.MethodName)) ∈ xAll := xin2 (List.mem_of_getElem? (i := 27) (by decide +kernel)) (by decide +kernel)
theorem s_J4_init_da8c8_1 : xSi M_J4_init_da8c8 M_J5_init_d00df 1 1 := fun s args hts => ⟨callB_of 1 hts (xGood bw99) rfl rfl rfl (hts _ (List.mem_cons_of_mem _ (bw19))) (hts _ (List.mem_cons_of_mem _ (bw100))) (by decide +kernel) ⟨Nat.le_of_ble_eq_true rfl, Nat.le_of_ble_eq_true rfl⟩, rfl, (hts _ (List.mem_cons_of_mem _ (bw101)))⟩
set_option maxRecDepth 100000 in
set_option maxHeartbeats 4000000 in
theorem ct_J4_init_da8c8 {E : xE} {Po : xPo} {w : xW} {b : Nat} (h2 : b < w.2) (hw : w.1 b = some (.inr (1, [.null, .int 0, .int 0, .int 0]))) (hp : Po (.inl none) (xset (xadd w (.inl (E.1.2 7, 16, .inl (fun _ => 0)))) b (sbdE w.2 0 0))) : Ct M_J4_init_da8c8 E [.ref b] w Po := by
  refine Ct.of (ws2 := xAll) (L := [some (.ref b)]) (by decide +kernel) rfl rfl (List.forall_mem_cons.mpr ⟨rfl, fun _ h => absurd h List.not_mem_nil⟩) (Nat.le_of_ble_eq_true rfl) rfl ?_
  refine r_aload_n (q := 1) dJ4_init_da8c8_0 rfl rfl rfl ?_
  refine r_bipush (q := 3) (v := 16) dJ4_init_da8c8_1 (by decide) rfl ?_
  refine r_callI (q := 6) (As := [_]) dJ4_init_da8c8_3 s_J4_init_da8c8_1 rfl (Nat.le_of_ble_eq_true rfl) rfl rfl rfl ⟨(Nat.le_of_ble_eq_true rfl), (Nat.le_of_ble_eq_true rfl)⟩ rfl ?_
  refine ct_J5_init_d00df h2 hw ?_
  show WF _ E Po _ _ _ _ _ _ _
  refine r_vret dJ4_init_da8c8_6 rfl (Nat.le_of_ble_eq_true rfl) (Nat.le_of_ble_eq_true rfl) ?_
  exact hp
