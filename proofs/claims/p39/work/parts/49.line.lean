/-! ===== 49.line: the hire writes a line (rows laid by wip/p39/gen/make49.py) ===== -/
set_option maxRecDepth 100000
section XLDCW
variable {M : xM} {E : xE} {Po : xPo} {w0 w : xW} {pc q : Nat} {L : List (Option Value)} {st : List Value} {k n : Nat}
theorem r_ldcSw {idx i : Nat} {tx : String} (hd : decode (mC M) pc = .ok (.ldc_w idx, 3)) (hi : xStr[i]? = some ((mY M).cls, idx, tx)) (hq : pc + 3 = q)
    (kk : WF M E Po w0 q L (.ref (kS E i) :: st) w k n) : WF M E Po w0 pc L st w k n := by
  subst hq
  intro p l e s m args below meth c H locs ls C hP hs hS hl9 T hT X
  obtain ⟨c1, c2, c3, c4, c5, c6, c7, c8, c9, c10, c11, c12⟩ := id C
  have hZ := c11.2.2.1 i _ hi
  obtain ⟨t, a1, b1⟩ := kk p l e s m args below meth c H locs ls C hP hs hS hl9 T hT X
  exact ⟨t, X.ldcStringW c1 c6 (text := tx) (a := kS E i) hZ.1 hZ.2 (g := F0 m pc ls st) rfl (by rw [c2]; exact hd) t a1, b1⟩
end XLDCW
/-- the hire with another builder -/
def sbH (h : xHi) (B : xBd) : xHi := (h.1, h.2.1, h.2.2.1, h.2.2.2.1, B)
theorem hasS.eqs {E : xE} {w u : xW} {a : Nat} {d : xCo} (h : hasS E w a d) (he : ∀ o, o < 27 → u.1 (a + o) = w.1 (a + o)) : hasS E u a d := fun o ho => (he o ho).trans (h o ho)
theorem HI.hb {E : xE} {w : xW} {x : Nat} {h : xHi} (H : HI E w x h) : HB E w (x + 329) h.2.2.2.2 := ⟨H.2.2.2.1, H.2.2.2.2.1, by have := H.2.2.2.2.2.1; omega, H.2.2.2.2.2.2.1⟩
theorem HI.bld {E : xE} {u v : xW} {x : Nat} {h : xHi} {B : xBd} (H : HI E u x h) (hB : HB E v (x + 329) B) (F : FB u v (x + 329) h.2.2.2.2 B) : HI E v x (sbH h B) := by
  obtain ⟨⟨a1, a2, a3, a4⟩, ⟨b1, b2, b3, b4⟩, ⟨c1, c2, c3⟩, d1, d2, d3, d4, d5⟩ := H
  obtain ⟨f1, f2, f3⟩ := F
  have e : ∀ q, x ≤ q → q < x + 329 → v.1 q = u.1 q := fun q h1 h2 => f2 q (by omega) (by omega) (by omega)
  obtain ⟨g1, g2, g3, g4⟩ := hB
  refine ⟨⟨(e _ (by omega) (by omega)).trans a1, (e _ (by omega) (by omega)).trans a2, (e _ (by omega) (by omega)).trans a3, a4⟩, ⟨b1.eqs fun o ho => e _ (by omega) (by omega), b2.eqs fun o ho => e _ (by omega) (by omega), b3.eqs fun o ho => e _ (by omega) (by omega), fun i hi => (b4 i hi).eqs fun o ho => e _ (by omega) (by omega)⟩, ⟨(e _ (by omega) (by omega)).trans c1, (e _ (by omega) (by omega)).trans c2, c3⟩, g1, g2, ?_, g4, Nat.le_trans d5 f1⟩
  show x + 330 ≤ B.1
  rcases f3 with h | h
  · rw [h]; exact d3
  · omega
theorem FB.fr {w u : xW} {x : Nat} {h : xHi} {B : xBd} (F : FB w u (x + 329) h.2.2.2.2 B) : Fr w u x h :=
  ⟨F.1, fun q hq hl => F.2.1 q (fun e => hq (Or.inl (by omega))) (fun e => hq (Or.inr e)) hl⟩
/-- a line so far: what is written since world w -/
def LN (E : xE) (w : xW) (x : Nat) (h : xHi) (u : xW) (B : xBd) (l : List Int32) : Prop := HI E u x (sbH h B) ∧ hasL B l ∧ FB w u (x + 329) h.2.2.2.2 B
theorem LN.H {E : xE} {w u : xW} {x : Nat} {h : xHi} {B : xBd} {l : List Int32} (N : LN E w x h u B l) : HI E u x (sbH h B) := N.1
theorem LN.L {E : xE} {w u : xW} {x : Nat} {h : xHi} {B : xBd} {l : List Int32} (N : LN E w x h u B l) : hasL B l := N.2.1
theorem LN.F {E : xE} {w u : xW} {x : Nat} {h : xHi} {B : xBd} {l : List Int32} (N : LN E w x h u B l) : FB w u (x + 329) h.2.2.2.2 B := N.2.2
theorem LN.step {E : xE} {w u v : xW} {x : Nat} {h : xHi} {B B2 : xBd} {l l2 : List Int32} (N : LN E w x h u B l) (hB : HB E v (x + 329) B2) (hL : hasL B2 l2) (F : FB u v (x + 329) B B2) : LN E w x h v B2 l2 :=
  ⟨HI.bld (h := sbH h B) N.H hB F, hL, N.F.trans F⟩
theorem okc : okB 32 ∧ okB 108 ∧ okB 99 ∧ okB 58 := by
  have h : ∀ x ∈ ([32, 108, 99, 58] : List Int32), ((x &&& 255).toUInt32 % 65536).toInt32 = x ∧ narrow .char (.int x) = .int x ∧ vp_nar .byte x.toInt8.toInt32 = x ∧ vp_nar .byte x = x ∧ fits .byte (.int x) = true ∧ ¬ 255 < x := by decide +kernel
  exact ⟨h _ (by simp), h _ (by simp), h _ (by simp), h _ (by simp)⟩
theorem byt_lens : (byts 14).length = 7 ∧ (byts 15).length = 6 ∧ (byts 16).length = 2 ∧ (byts 17).length = 2 := by decide +kernel
/-- what the hire writes of a tub -/
def tbL (c : xCo) (j : Nat) : List Int32 := [32] ++ (digs j ++ ([32] ++ (digs (c.2.1 j 3).toNatClampNeg ++ ([108] ++ (if c.2.1 j 3 ≤ 0 then [] else [32] ++ (digs (c.2.1 j 4).toNatClampNeg ++ ([99] ++ (if bb (c.2.1 j 5) = 0 then [] else byts 15))))))))
/-- numbers that a line can hold -/
def inD (c : xCo) : Prop := (∀ j, j < 8 → ∃ a, a < 1000 ∧ c.2.1 j 3 = nI a) ∧ (∀ j, j < 8 → ∃ a, a < 1000 ∧ c.2.1 j 4 = nI a) ∧ (∀ u, u < 5 → ∃ a, a < 1000 ∧ c.2.2.1 u 4 = nI a) ∧ (∀ g, g < 4 → ∃ a, a < 1000 ∧ c.2.2.2 g 0 = nI a)
/-- no method of the builder, nor one that calls it, throws for it -/
abbrev lnD {a b c d e f g : List Int32} : True := trivial
/-- TubHire.appendTub(I)V -/
def M_P9_appendTub : xM := (yX9_appendTub, cX9_appendTub, 3, none, Cond.code yX9_appendTub cX9_appendTub 3 none :: (xPv ++ xAll), { frames := 20, cells := 15, slots := 2000, locals := 1500 }, (15, 2000), [])
theorem lw0 : (Jvm.Cond.fieldLink "TubHire" (10 : Nat) "TubHire" "store" "LTubHire$Store;") ∈ xAll := xin2 (List.mem_of_getElem? (i := 54) (by decide +kernel)) (by decide +kernel)
theorem f_P9_appendTub_10 : xFld M_P9_appendTub 10 11 0 true (tyX9 0) := ⟨RX9, TX9, 8, tyX9, rfl, by decide, fun w h => mP (inX9 w h), mP (lw0), tyX9_ok, nmX9, rfl, rfl, rfl⟩
theorem lw1 : (Jvm.Cond.code ({ cls := "TubHire$Store", name := "tubAt", desc := "(I)LTubHire$Tub;" } : Jvm.MethodName) prog_7_method_3_code (2 : Nat) (Option.some (Jvm.ClassFile.FieldType.object "TubHire$Tub"))) ∈ xAll := xin3 (List.mem_of_getElem? (i := 58) (by decide +kernel)) (by decide +kernel)
theorem lw2 : (Jvm.Cond.initialized "TubHire$Store") ∈ xAll := xin1 (List.mem_of_getElem? (i := 2) (by decide +kernel)) (by decide +kernel)
theorem lw3 : (Jvm.Cond.methodLink "TubHire" (62 : Nat) ({ cls := "TubHire$Store", name := "tubAt", desc := "(I)LTubHire$Tub;" } : Jvm.MethodName)) ∈ xAll := xin4 (List.mem_of_getElem? (i := 71) (by decide +kernel)) (by decide +kernel)
theorem lw4 : (Jvm.Cond.instanceMethod ({ cls := "TubHire$Store", name := "tubAt", desc := "(I)LTubHire$Tub;" } : Jvm.MethodName)) ∈ xAll := xin3 (List.mem_of_getElem? (i := 56) (by decide +kernel)) (by decide +kernel)
theorem lw5 : (Jvm.Cond.selects "TubHire$Store" ({ cls := "TubHire$Store", name := "tubAt", desc := "(I)LTubHire$Tub;" } : Jvm.MethodName) ({ cls := "TubHire$Store", name := "tubAt", desc := "(I)LTubHire$Tub;" } : Jvm.MethodName)) ∈ xAll := xin3 (List.mem_of_getElem? (i := 57) (by decide +kernel)) (by decide +kernel)
theorem s_P9_appendTub_62 : xSv M_P9_appendTub M_X5_tubAt 62 1 := fun s args hts => ⟨callB_of 1 (htsP hts) (xGood lw1) rfl rfl rfl (hts _ (mP (lw2))) (hts _ (mP (lw3))) (by decide +kernel) ⟨Nat.le_of_ble_eq_true rfl, Nat.le_of_ble_eq_true rfl⟩, (hts _ (mP (lw4))), (hts _ (mP (lw5)))⟩
theorem lw6 : (Jvm.Cond.fieldLink "TubHire" (39 : Nat) "TubHire" "written" "Ljava/lang/StringBuilder;") ∈ xAll := xin2 (List.mem_of_getElem? (i := 59) (by decide +kernel)) (by decide +kernel)
theorem f_P9_appendTub_39 : xFld M_P9_appendTub 39 11 5 true (tyX9 5) := ⟨RX9, TX9, 8, tyX9, rfl, by decide, fun w h => mP (inX9 w h), mP (lw6), tyX9_ok, nmX9, rfl, rfl, rfl⟩
theorem lw7 : (Jvm.Cond.code ({ cls := "java/lang/StringBuilder", name := "append", desc := "(Ljava/lang/String;)Ljava/lang/StringBuilder;" } : Jvm.MethodName) prog_31_method_7_code (2 : Nat) (Option.some (Jvm.ClassFile.FieldType.object "java/lang/StringBuilder"))) ∈ xAll := xin5 (List.mem_of_getElem? (i := 36) (by decide +kernel)) (by decide +kernel)
theorem lw8 : (Jvm.Cond.initialized "java/lang/StringBuilder") ∈ xAll := xin1 (List.mem_of_getElem? (i := 12) (by decide +kernel)) (by decide +kernel)
theorem lw9 : (Jvm.Cond.methodLink "TubHire" (213 : Nat) ({ cls := "java/lang/StringBuilder", name := "append", desc := "(Ljava/lang/String;)Ljava/lang/StringBuilder;" } : Jvm.MethodName)) ∈ xAll := xin5 (List.mem_of_getElem? (i := 203) (by decide +kernel)) (by decide +kernel)
theorem lw10 : (Jvm.Cond.instanceMethod ({ cls := "java/lang/StringBuilder", name := "append", desc := "(Ljava/lang/String;)Ljava/lang/StringBuilder;" } : Jvm.MethodName)) ∈ xAll := xin5 (List.mem_of_getElem? (i := 34) (by decide +kernel)) (by decide +kernel)
theorem lw11 : (Jvm.Cond.selects "java/lang/StringBuilder" ({ cls := "java/lang/StringBuilder", name := "append", desc := "(Ljava/lang/String;)Ljava/lang/StringBuilder;" } : Jvm.MethodName) ({ cls := "java/lang/StringBuilder", name := "append", desc := "(Ljava/lang/String;)Ljava/lang/StringBuilder;" } : Jvm.MethodName)) ∈ xAll := xin5 (List.mem_of_getElem? (i := 35) (by decide +kernel)) (by decide +kernel)
theorem s_P9_appendTub_213 : xSv M_P9_appendTub M_J4_append_15ec4 213 1 := fun s args hts => ⟨liftB (callB_of 1 (htsP hts) (xGood lw7) rfl rfl rfl (hts _ (mP (lw8))) (hts _ (mP (lw9))) (by decide +kernel) ⟨Nat.le_of_ble_eq_true rfl, Nat.le_of_ble_eq_true rfl⟩) (htsQ hts), (hts _ (mP (lw10))), (hts _ (mP (lw11)))⟩
theorem lw12 : (Jvm.Cond.code ({ cls := "java/lang/StringBuilder", name := "append", desc := "(C)Ljava/lang/StringBuilder;" } : Jvm.MethodName) prog_31_method_14_code (2 : Nat) (Option.some (Jvm.ClassFile.FieldType.object "java/lang/StringBuilder"))) ∈ xAll := xin4 (List.mem_of_getElem? (i := 234) (by decide +kernel)) (by decide +kernel)
theorem lw13 : (Jvm.Cond.methodLink "TubHire" (199 : Nat) ({ cls := "java/lang/StringBuilder", name := "append", desc := "(C)Ljava/lang/StringBuilder;" } : Jvm.MethodName)) ∈ xAll := xin5 (List.mem_of_getElem? (i := 197) (by decide +kernel)) (by decide +kernel)
theorem lw14 : (Jvm.Cond.instanceMethod ({ cls := "java/lang/StringBuilder", name := "append", desc := "(C)Ljava/lang/StringBuilder;" } : Jvm.MethodName)) ∈ xAll := xin4 (List.mem_of_getElem? (i := 232) (by decide +kernel)) (by decide +kernel)
theorem lw15 : (Jvm.Cond.selects "java/lang/StringBuilder" ({ cls := "java/lang/StringBuilder", name := "append", desc := "(C)Ljava/lang/StringBuilder;" } : Jvm.MethodName) ({ cls := "java/lang/StringBuilder", name := "append", desc := "(C)Ljava/lang/StringBuilder;" } : Jvm.MethodName)) ∈ xAll := xin4 (List.mem_of_getElem? (i := 233) (by decide +kernel)) (by decide +kernel)
theorem s_P9_appendTub_199 : xSv M_P9_appendTub M_J4_append_cf468 199 1 := fun s args hts => ⟨liftB (callB_of 1 (htsP hts) (xGood lw12) rfl rfl rfl (hts _ (mP (lw8))) (hts _ (mP (lw13))) (by decide +kernel) ⟨Nat.le_of_ble_eq_true rfl, Nat.le_of_ble_eq_true rfl⟩) (htsQ hts), (hts _ (mP (lw14))), (hts _ (mP (lw15)))⟩
theorem lw16 : (Jvm.Cond.code ({ cls := "java/lang/StringBuilder", name := "append", desc := "(I)Ljava/lang/StringBuilder;" } : Jvm.MethodName) prog_31_method_15_code (2 : Nat) (Option.some (Jvm.ClassFile.FieldType.object "java/lang/StringBuilder"))) ∈ xAll := xin4 (List.mem_of_getElem? (i := 150) (by decide +kernel)) (by decide +kernel)
theorem lw17 : (Jvm.Cond.methodLink "TubHire" (195 : Nat) ({ cls := "java/lang/StringBuilder", name := "append", desc := "(I)Ljava/lang/StringBuilder;" } : Jvm.MethodName)) ∈ xAll := xin5 (List.mem_of_getElem? (i := 196) (by decide +kernel)) (by decide +kernel)
theorem lw18 : (Jvm.Cond.instanceMethod ({ cls := "java/lang/StringBuilder", name := "append", desc := "(I)Ljava/lang/StringBuilder;" } : Jvm.MethodName)) ∈ xAll := xin4 (List.mem_of_getElem? (i := 148) (by decide +kernel)) (by decide +kernel)
theorem lw19 : (Jvm.Cond.selects "java/lang/StringBuilder" ({ cls := "java/lang/StringBuilder", name := "append", desc := "(I)Ljava/lang/StringBuilder;" } : Jvm.MethodName) ({ cls := "java/lang/StringBuilder", name := "append", desc := "(I)Ljava/lang/StringBuilder;" } : Jvm.MethodName)) ∈ xAll := xin4 (List.mem_of_getElem? (i := 149) (by decide +kernel)) (by decide +kernel)
theorem s_P9_appendTub_195 : xSv M_P9_appendTub M_J4_append_bf812 195 1 := fun s args hts => ⟨liftB (callB_of 1 (htsP hts) (xGood lw16) rfl rfl rfl (hts _ (mP (lw8))) (hts _ (mP (lw17))) (by decide +kernel) ⟨Nat.le_of_ble_eq_true rfl, Nat.le_of_ble_eq_true rfl⟩) (htsQ hts), (hts _ (mP (lw18))), (hts _ (mP (lw19)))⟩
theorem lw20 : (Jvm.Cond.fieldLink "TubHire" (253 : Nat) "TubHire$Tub" "litres" "I") ∈ xAll := xin1 (List.mem_of_getElem? (i := 86) (by decide +kernel)) (by decide +kernel)
theorem f_P9_appendTub_253 : xFld M_P9_appendTub 253 10 3 false (tyX8 3) := ⟨RX8, TX8, 7, tyX8, rfl, by decide, fun w h => mP (inX8 w h), mP (lw20), tyX8_ok, nmX8, rfl, rfl, rfl⟩
theorem lw21 : (Jvm.Cond.fieldLink "TubHire" (256 : Nat) "TubHire$Tub" "warmth" "I") ∈ xAll := xin1 (List.mem_of_getElem? (i := 89) (by decide +kernel)) (by decide +kernel)
theorem f_P9_appendTub_256 : xFld M_P9_appendTub 256 10 4 false (tyX8 4) := ⟨RX8, TX8, 7, tyX8, rfl, by decide, fun w h => mP (inX8 w h), mP (lw21), tyX8_ok, nmX8, rfl, rfl, rfl⟩
theorem lw22 : (Jvm.Cond.fieldLink "TubHire" (331 : Nat) "TubHire$Tub" "isDirty" "Z") ∈ xAll := xin1 (List.mem_of_getElem? (i := 92) (by decide +kernel)) (by decide +kernel)
theorem f_P9_appendTub_331 : xFld M_P9_appendTub 331 10 5 false (tyX8 5) := ⟨RX8, TX8, 7, tyX8, rfl, by decide, fun w h => mP (inX8 w h), mP (lw22), tyX8_ok, nmX8, rfl, rfl, rfl⟩
set_option maxRecDepth 100000 in
set_option maxHeartbeats 4000000 in
theorem ct_P9_appendTub_in {E : xE} {Po : xPo} {w : xW} {w9 : xW} {x : Nat} {h : xHi} {B : xBd} {l : List Int32} (N : LN E w9 x h w B l) (hl : l.length ≤ 10) {j : Nat} (hj : j < 8) (ht : okT (h.1 0) (nI j)) (hD : inD (h.1 0)) (hp : ∀ u B, LN E w9 x h u B (l ++ tbL (h.1 0) j) → Po (.inl none) u) : Ct M_P9_appendTub E [.ref x, .int (nI j)] w Po := by
  refine Ct.of (ws2 := xPv ++ xAll) (L := [some (.ref x), some (.int (nI j)), none]) (by decide +kernel) rfl rfl (List.forall_mem_cons.mpr ⟨rfl, List.forall_mem_cons.mpr ⟨rfl, fun _ h => absurd h List.not_mem_nil⟩⟩) (Nat.le_of_ble_eq_true rfl) rfl ?_
  obtain ⟨a, ha, ea⟩ := hD.1 j hj
  obtain ⟨b, hb, eb⟩ := hD.2.1 j hj
  have d1 := @digs_len j
  have d2 := @digs_len a
  have d3 := @digs_len b
  have d4 := @digs_pos a
  refine r_aload_n (q := 1) dX9_appendTub_0 rfl rfl rfl ?_
  refine r_getfield (q := 4) dX9_appendTub_1 f_P9_appendTub_10 N.H.1.1 rfl rfl ?_
  refine r_iload_n (q := 5) dX9_appendTub_4 rfl rfl rfl ?_
  refine r_callV (q := 8) (ci := 7) (As := [_]) dX9_appendTub_5 s_P9_appendTub_62 (N.H.2.1.1 0 (by decide)) rfl rfl rfl (Nat.le_of_ble_eq_true rfl) rfl rfl rfl (Nat.le_of_ble_eq_true rfl) (Nat.le_of_ble_eq_true rfl) ⟨(Nat.le_of_ble_eq_true rfl), (Nat.le_of_ble_eq_true rfl)⟩ rfl ?_
  refine Ct.cw N.H.2.1.1.eq.symm (ct_X5_tubAt_in hj ht ?_)
  show WF _ E Po _ _ _ _ _ _ _
  refine WF.cw N.H.2.1.1.eq ?_
  refine r_astore_n (q := 9) dX9_appendTub_8 rfl (Nat.le_of_ble_eq_true rfl) (xone_of rfl) rfl ?_
  refine r_aload_n (q := 10) dX9_appendTub_9 rfl rfl rfl ?_
  refine r_ifnonnull (q := 25) dX9_appendTub_10 (by decide) ?_
  refine r_aload_n (q := 26) dX9_appendTub_25 rfl rfl rfl ?_
  refine r_getfield (q := 29) dX9_appendTub_26 f_P9_appendTub_39 N.H.1.1 rfl rfl ?_
  refine r_bipush (q := 31) (v := 32) dX9_appendTub_29 (by decide) rfl ?_
  refine r_callV (q := 34) (ci := 1) (As := [_]) dX9_appendTub_31 s_P9_appendTub_199 N.H.2.2.2.1 rfl rfl rfl (Nat.le_of_ble_eq_true rfl) rfl rfl rfl (Nat.le_of_ble_eq_true rfl) (Nat.le_of_ble_eq_true rfl) ⟨(Nat.le_of_ble_eq_true rfl), (Nat.le_of_ble_eq_true rfl)⟩ rfl ?_
  refine ct_J4_append_cf468 N.H.hb N.L okc.1 (by first | omega | (simp only [List.length_append, List.length_cons, List.length_nil, byt_lens]; omega)) (fun u B H3 L3 F3 => ?_)
  show WF _ E Po _ _ _ _ _ _ _
  replace N := N.step H3 L3 F3
  clear H3 L3 F3
  refine r_iload_n (q := 35) dX9_appendTub_34 rfl rfl rfl ?_
  refine r_callV (q := 38) (ci := 1) (As := [_]) dX9_appendTub_35 s_P9_appendTub_195 N.H.2.2.2.1 rfl rfl rfl (Nat.le_of_ble_eq_true rfl) rfl rfl rfl (Nat.le_of_ble_eq_true rfl) (Nat.le_of_ble_eq_true rfl) ⟨(Nat.le_of_ble_eq_true rfl), (Nat.le_of_ble_eq_true rfl)⟩ rfl ?_
  refine ct_J4_append_bf812 N.H.hb N.L (show j < 1000 by omega) (by first | omega | (simp only [List.length_append, List.length_cons, List.length_nil, byt_lens]; omega)) (fun u B H3 L3 F3 => ?_)
  show WF _ E Po _ _ _ _ _ _ _
  replace N := N.step H3 L3 F3
  clear H3 L3 F3
  refine r_bipush (q := 40) (v := 32) dX9_appendTub_38 (by decide) rfl ?_
  refine r_callV (q := 43) (ci := 1) (As := [_]) dX9_appendTub_40 s_P9_appendTub_199 N.H.2.2.2.1 rfl rfl rfl (Nat.le_of_ble_eq_true rfl) rfl rfl rfl (Nat.le_of_ble_eq_true rfl) (Nat.le_of_ble_eq_true rfl) ⟨(Nat.le_of_ble_eq_true rfl), (Nat.le_of_ble_eq_true rfl)⟩ rfl ?_
  refine ct_J4_append_cf468 N.H.hb N.L okc.1 (by first | omega | (simp only [List.length_append, List.length_cons, List.length_nil, byt_lens]; omega)) (fun u B H3 L3 F3 => ?_)
  show WF _ E Po _ _ _ _ _ _ _
  replace N := N.step H3 L3 F3
  clear H3 L3 F3
  refine r_aload_n (q := 44) dX9_appendTub_43 rfl rfl rfl ?_
  refine r_getfield (q := 47) dX9_appendTub_44 f_P9_appendTub_253 (N.H.2.1.1.atT hj) (by rfl) rfl ?_
  rw [show (sbH h B).1 0 = h.1 0 from rfl, ea]
  refine r_callV (q := 50) (ci := 1) (As := [_]) dX9_appendTub_47 s_P9_appendTub_195 N.H.2.2.2.1 rfl rfl rfl (Nat.le_of_ble_eq_true rfl) rfl rfl rfl (Nat.le_of_ble_eq_true rfl) (Nat.le_of_ble_eq_true rfl) ⟨(Nat.le_of_ble_eq_true rfl), (Nat.le_of_ble_eq_true rfl)⟩ rfl ?_
  refine ct_J4_append_bf812 N.H.hb N.L ha (by first | omega | (simp only [List.length_append, List.length_cons, List.length_nil, byt_lens]; omega)) (fun u B H3 L3 F3 => ?_)
  show WF _ E Po _ _ _ _ _ _ _
  replace N := N.step H3 L3 F3
  clear H3 L3 F3
  refine r_bipush (q := 52) (v := 108) dX9_appendTub_50 (by decide) rfl ?_
  refine r_callV (q := 55) (ci := 1) (As := [_]) dX9_appendTub_52 s_P9_appendTub_199 N.H.2.2.2.1 rfl rfl rfl (Nat.le_of_ble_eq_true rfl) rfl rfl rfl (Nat.le_of_ble_eq_true rfl) (Nat.le_of_ble_eq_true rfl) ⟨(Nat.le_of_ble_eq_true rfl), (Nat.le_of_ble_eq_true rfl)⟩ rfl ?_
  refine ct_J4_append_cf468 N.H.hb N.L okc.2.1 (by first | omega | (simp only [List.length_append, List.length_cons, List.length_nil, byt_lens]; omega)) (fun u B H3 L3 F3 => ?_)
  show WF _ E Po _ _ _ _ _ _ _
  replace N := N.step H3 L3 F3
  clear H3 L3 F3
  refine r_pop (q := 56) dX9_appendTub_55 rfl rfl ?_
  refine r_aload_n (q := 57) dX9_appendTub_56 rfl rfl rfl ?_
  refine r_getfield (q := 60) dX9_appendTub_57 f_P9_appendTub_253 (N.H.2.1.1.atT hj) (by rfl) rfl ?_
  refine r_if_le (q := 103) (q2 := 63) dX9_appendTub_60 (by decide) rfl (fun h60 => ?_) (fun h60 => ?_)
  · change (h.1 0).2.1 j 3 ≤ 0 at h60
    refine r_vret dX9_appendTub_103 rfl (Nat.le_of_ble_eq_true rfl) (Nat.le_of_ble_eq_true rfl) (hp u B ?_)
    rw [tbL, ea, eb, nI_cl (by omega), nI_cl (by omega)]
    rw [ea] at h60
    first
      | rw [if_pos h60, List.append_nil]; simpa only [List.append_assoc] using N
      | rw [if_neg h60]
        first
          | rw [if_pos h89, List.append_nil]; simpa only [List.append_assoc] using N
          | rw [if_neg h89]; simpa only [List.append_assoc] using N
  · change ¬ (h.1 0).2.1 j 3 ≤ 0 at h60
    refine r_aload_n (q := 64) dX9_appendTub_63 rfl rfl rfl ?_
    refine r_getfield (q := 67) dX9_appendTub_64 f_P9_appendTub_39 N.H.1.1 rfl rfl ?_
    refine r_bipush (q := 69) (v := 32) dX9_appendTub_67 (by decide) rfl ?_
    refine r_callV (q := 72) (ci := 1) (As := [_]) dX9_appendTub_69 s_P9_appendTub_199 N.H.2.2.2.1 rfl rfl rfl (Nat.le_of_ble_eq_true rfl) rfl rfl rfl (Nat.le_of_ble_eq_true rfl) (Nat.le_of_ble_eq_true rfl) ⟨(Nat.le_of_ble_eq_true rfl), (Nat.le_of_ble_eq_true rfl)⟩ rfl ?_
    refine ct_J4_append_cf468 N.H.hb N.L okc.1 (by first | omega | (simp only [List.length_append, List.length_cons, List.length_nil, byt_lens]; omega)) (fun u B H3 L3 F3 => ?_)
    show WF _ E Po _ _ _ _ _ _ _
    replace N := N.step H3 L3 F3
    clear H3 L3 F3
    refine r_aload_n (q := 73) dX9_appendTub_72 rfl rfl rfl ?_
    refine r_getfield (q := 76) dX9_appendTub_73 f_P9_appendTub_256 (N.H.2.1.1.atT hj) (by rfl) rfl ?_
    rw [show (sbH h B).1 0 = h.1 0 from rfl, eb]
    refine r_callV (q := 79) (ci := 1) (As := [_]) dX9_appendTub_76 s_P9_appendTub_195 N.H.2.2.2.1 rfl rfl rfl (Nat.le_of_ble_eq_true rfl) rfl rfl rfl (Nat.le_of_ble_eq_true rfl) (Nat.le_of_ble_eq_true rfl) ⟨(Nat.le_of_ble_eq_true rfl), (Nat.le_of_ble_eq_true rfl)⟩ rfl ?_
    refine ct_J4_append_bf812 N.H.hb N.L hb (by first | omega | (simp only [List.length_append, List.length_cons, List.length_nil, byt_lens]; omega)) (fun u B H3 L3 F3 => ?_)
    show WF _ E Po _ _ _ _ _ _ _
    replace N := N.step H3 L3 F3
    clear H3 L3 F3
    refine r_bipush (q := 81) (v := 99) dX9_appendTub_79 (by decide) rfl ?_
    refine r_callV (q := 84) (ci := 1) (As := [_]) dX9_appendTub_81 s_P9_appendTub_199 N.H.2.2.2.1 rfl rfl rfl (Nat.le_of_ble_eq_true rfl) rfl rfl rfl (Nat.le_of_ble_eq_true rfl) (Nat.le_of_ble_eq_true rfl) ⟨(Nat.le_of_ble_eq_true rfl), (Nat.le_of_ble_eq_true rfl)⟩ rfl ?_
    refine ct_J4_append_cf468 N.H.hb N.L okc.2.2.1 (by first | omega | (simp only [List.length_append, List.length_cons, List.length_nil, byt_lens]; omega)) (fun u B H3 L3 F3 => ?_)
    show WF _ E Po _ _ _ _ _ _ _
    replace N := N.step H3 L3 F3
    clear H3 L3 F3
    refine r_pop (q := 85) dX9_appendTub_84 rfl rfl ?_
    refine r_aload_n (q := 86) dX9_appendTub_85 rfl rfl rfl ?_
    refine r_getfield (q := 89) dX9_appendTub_86 f_P9_appendTub_331 (N.H.2.1.1.atT hj) (by rfl) rfl ?_
    refine r_if_eq (q := 103) (q2 := 92) dX9_appendTub_89 (by decide) rfl (fun h89 => ?_) (fun h89 => ?_)
    · change bb ((h.1 0).2.1 j 5) = 0 at h89
      refine r_vret dX9_appendTub_103 rfl (Nat.le_of_ble_eq_true rfl) (Nat.le_of_ble_eq_true rfl) (hp u B ?_)
      rw [tbL, ea, eb, nI_cl (by omega), nI_cl (by omega)]
      rw [ea] at h60
      first
        | rw [if_pos h60, List.append_nil]; simpa only [List.append_assoc] using N
        | rw [if_neg h60]
          first
            | rw [if_pos h89, List.append_nil]; simpa only [List.append_assoc] using N
            | rw [if_neg h89]; simpa only [List.append_assoc] using N
    · change ¬ bb ((h.1 0).2.1 j 5) = 0 at h89
      refine r_aload_n (q := 93) dX9_appendTub_92 rfl rfl rfl ?_
      refine r_getfield (q := 96) dX9_appendTub_93 f_P9_appendTub_39 N.H.1.1 rfl rfl ?_
      refine r_ldcSw (i := 15) (q := 99) dX9_appendTub_96 rfl rfl ?_
      refine r_callV (q := 102) (ci := 1) (As := [_]) dX9_appendTub_99 s_P9_appendTub_213 N.H.2.2.2.1 rfl rfl rfl (Nat.le_of_ble_eq_true rfl) rfl rfl rfl (Nat.le_of_ble_eq_true rfl) (Nat.le_of_ble_eq_true rfl) ⟨(Nat.le_of_ble_eq_true rfl), (Nat.le_of_ble_eq_true rfl)⟩ rfl ?_
      refine ct_J4_append_15ec4 N.H.hb N.L (show 15 < 54 by decide) (by first | omega | (simp only [List.length_append, List.length_cons, List.length_nil, byt_lens]; omega)) (fun u B H3 L3 F3 => ?_)
      show WF _ E Po _ _ _ _ _ _ _
      replace N := N.step H3 L3 F3
      clear H3 L3 F3
      refine r_pop (q := 103) dX9_appendTub_102 rfl rfl ?_
      refine r_vret dX9_appendTub_103 rfl (Nat.le_of_ble_eq_true rfl) (Nat.le_of_ble_eq_true rfl) (hp u B ?_)
      rw [tbL, ea, eb, nI_cl (by omega), nI_cl (by omega)]
      rw [ea] at h60
      first
        | rw [if_pos h60, List.append_nil]; simpa only [List.append_assoc] using N
        | rw [if_neg h60]
          first
            | rw [if_pos h89, List.append_nil]; simpa only [List.append_assoc] using N
            | rw [if_neg h89]; simpa only [List.append_assoc] using N
set_option maxRecDepth 100000 in
set_option maxHeartbeats 4000000 in
theorem ct_P9_appendTub_out {E : xE} {Po : xPo} {w : xW} {w9 : xW} {x : Nat} {h : xHi} {B : xBd} {l : List Int32} (N : LN E w9 x h w B l) (hl : l.length ≤ 10) {t : Int32} (ht : ¬ okT (h.1 0) t) (hp : ∀ u B, LN E w9 x h u B (l ++ byts 14) → Po (.inl none) u) : Ct M_P9_appendTub E [.ref x, .int t] w Po := by
  refine Ct.of (ws2 := xPv ++ xAll) (L := [some (.ref x), some (.int t), none]) (by decide +kernel) rfl rfl (List.forall_mem_cons.mpr ⟨rfl, List.forall_mem_cons.mpr ⟨rfl, fun _ h => absurd h List.not_mem_nil⟩⟩) (Nat.le_of_ble_eq_true rfl) rfl ?_
  refine r_aload_n (q := 1) dX9_appendTub_0 rfl rfl rfl ?_
  refine r_getfield (q := 4) dX9_appendTub_1 f_P9_appendTub_10 N.H.1.1 rfl rfl ?_
  refine r_iload_n (q := 5) dX9_appendTub_4 rfl rfl rfl ?_
  refine r_callV (q := 8) (ci := 7) (As := [_]) dX9_appendTub_5 s_P9_appendTub_62 (N.H.2.1.1 0 (by decide)) rfl rfl rfl (Nat.le_of_ble_eq_true rfl) rfl rfl rfl (Nat.le_of_ble_eq_true rfl) (Nat.le_of_ble_eq_true rfl) ⟨(Nat.le_of_ble_eq_true rfl), (Nat.le_of_ble_eq_true rfl)⟩ rfl ?_
  refine Ct.cw N.H.2.1.1.eq.symm (ct_X5_tubAt_out ht ?_)
  show WF _ E Po _ _ _ _ _ _ _
  refine WF.cw N.H.2.1.1.eq ?_
  refine r_astore_nN (q := 9) dX9_appendTub_8 rfl (Nat.le_of_ble_eq_true rfl) (xone_of rfl) rfl ?_
  refine r_aload_nN (q := 10) dX9_appendTub_9 rfl rfl rfl ?_
  refine r_ifnonnullN (q := 13) dX9_appendTub_10 rfl ?_
  refine r_aload_n (q := 14) dX9_appendTub_13 rfl rfl rfl ?_
  refine r_getfield (q := 17) dX9_appendTub_14 f_P9_appendTub_39 N.H.1.1 rfl rfl ?_
  refine r_ldcSw (i := 14) (q := 20) dX9_appendTub_17 rfl rfl ?_
  refine r_callV (q := 23) (ci := 1) (As := [_]) dX9_appendTub_20 s_P9_appendTub_213 N.H.2.2.2.1 rfl rfl rfl (Nat.le_of_ble_eq_true rfl) rfl rfl rfl (Nat.le_of_ble_eq_true rfl) (Nat.le_of_ble_eq_true rfl) ⟨(Nat.le_of_ble_eq_true rfl), (Nat.le_of_ble_eq_true rfl)⟩ rfl ?_
  refine ct_J4_append_15ec4 N.H.hb N.L (show 14 < 54 by decide) (by first | omega | (simp only [List.length_append, List.length_cons, List.length_nil, byt_lens]; omega)) (fun u B H3 L3 F3 => ?_)
  show WF _ E Po _ _ _ _ _ _ _
  replace N := N.step H3 L3 F3
  clear H3 L3 F3
  refine r_pop (q := 24) dX9_appendTub_23 rfl rfl ?_
  refine r_vret dX9_appendTub_24 rfl (Nat.le_of_ble_eq_true rfl) (Nat.le_of_ble_eq_true rfl) ?_
  exact hp u B N
/-- what the hire writes of the tub of a tent -/
noncomputable def tbx (c : xCo) (t : Int32) : List Int32 := if okT c t then tbL c t.toNatClampNeg else byts 14
theorem ite_len {p : Prop} [Decidable p] {a b : List Int32} {n : Nat} (ha : a.length ≤ n) (hb : b.length ≤ n) : (if p then a else b).length ≤ n := by split <;> assumption
theorem tbx_len {c : xCo} {t : Int32} : (tbx c t).length ≤ 20 := by
  unfold tbx
  refine ite_len ?_ (by rw [byt_lens.1]; decide)
  have d1 := @digs_len t.toNatClampNeg
  have d2 := @digs_len (c.2.1 t.toNatClampNeg 3).toNatClampNeg
  have d3 := @digs_len (c.2.1 t.toNatClampNeg 4).toNatClampNeg
  have e1 : (if bb (c.2.1 t.toNatClampNeg 5) = 0 then ([] : List Int32) else byts 15).length ≤ 6 := ite_len (Nat.zero_le _) (by rw [byt_lens.2.1]; decide)
  have e2 : (if c.2.1 t.toNatClampNeg 3 ≤ 0 then ([] : List Int32) else [32] ++ (digs (c.2.1 t.toNatClampNeg 4).toNatClampNeg ++ ([99] ++ (if bb (c.2.1 t.toNatClampNeg 5) = 0 then [] else byts 15)))).length ≤ 11 := ite_len (Nat.zero_le _) (by simp only [List.length_append, List.length_cons, List.length_nil]; omega)
  unfold tbL
  simp only [List.length_append, List.length_cons, List.length_nil] at e2 ⊢
  omega
theorem ct_P9_appendTub {E : xE} {Po : xPo} {w w9 : xW} {x : Nat} {h : xHi} {B : xBd} {l : List Int32} {t : Int32} (N : LN E w9 x h w B l) (hl : l.length ≤ 10) (hD : inD (h.1 0)) (hp : ∀ u B, LN E w9 x h u B (l ++ tbx (h.1 0) t) → Po (.inl none) u) : Ct M_P9_appendTub E [.ref x, .int t] w Po := by
  unfold tbx at hp
  by_cases ht : okT (h.1 0) t
  · simp only [if_pos ht] at hp
    obtain ⟨j, hj, rfl⟩ := ht.ix
    rw [nI_cl (by omega)] at hp
    exact ct_P9_appendTub_in N hl hj ht hD hp
  · simp only [if_neg ht] at hp
    exact ct_P9_appendTub_out N hl ht hp
/-- the line of a tent, as the hire writes it -/
noncomputable def lineC (c : xCo) (u : Nat) : List Int32 := digs u ++ ([58] ++ (tbx c (c.2.2.1 u 1) ++ ((if okG c (c.2.2.1 u 2) then byts 16 ++ digs (c.2.2.2 (c.2.2.1 u 2).toNatClampNeg 0).toNatClampNeg else []) ++ (if c.2.2.1 u 4 ≤ 0 then [] else byts 17 ++ digs (c.2.2.1 u 4).toNatClampNeg))))
/-- TubHire.line(I)I -/
def M_P9_line : xM := (yX9_line, cX9_line, 4, (some FieldType.int), Cond.code yX9_line cX9_line 4 (some FieldType.int) :: (xPv ++ xAll), { frames := 30, cells := 40, slots := 4000, locals := 2000 }, (40, 4000), [])
theorem f_P9_line_10 : xFld M_P9_line 10 11 0 true (tyX9 0) := ⟨RX9, TX9, 8, tyX9, rfl, by decide, fun w h => mP (inX9 w h), mP (lw0), tyX9_ok, nmX9, rfl, rfl, rfl⟩
theorem lw23 : (Jvm.Cond.code ({ cls := "TubHire$Store", name := "tentAt", desc := "(I)LTubHire$Tent;" } : Jvm.MethodName) prog_7_method_4_code (2 : Nat) (Option.some (Jvm.ClassFile.FieldType.object "TubHire$Tent"))) ∈ xAll := xin3 (List.mem_of_getElem? (i := 62) (by decide +kernel)) (by decide +kernel)
theorem lw24 : (Jvm.Cond.methodLink "TubHire" (119 : Nat) ({ cls := "TubHire$Store", name := "tentAt", desc := "(I)LTubHire$Tent;" } : Jvm.MethodName)) ∈ xAll := xin4 (List.mem_of_getElem? (i := 85) (by decide +kernel)) (by decide +kernel)
theorem lw25 : (Jvm.Cond.instanceMethod ({ cls := "TubHire$Store", name := "tentAt", desc := "(I)LTubHire$Tent;" } : Jvm.MethodName)) ∈ xAll := xin3 (List.mem_of_getElem? (i := 60) (by decide +kernel)) (by decide +kernel)
theorem lw26 : (Jvm.Cond.selects "TubHire$Store" ({ cls := "TubHire$Store", name := "tentAt", desc := "(I)LTubHire$Tent;" } : Jvm.MethodName) ({ cls := "TubHire$Store", name := "tentAt", desc := "(I)LTubHire$Tent;" } : Jvm.MethodName)) ∈ xAll := xin3 (List.mem_of_getElem? (i := 61) (by decide +kernel)) (by decide +kernel)
theorem s_P9_line_119 : xSv M_P9_line M_X5_tentAt 119 1 := fun s args hts => ⟨callB_of 1 (htsP hts) (xGood lw23) rfl rfl rfl (hts _ (mP (lw2))) (hts _ (mP (lw24))) (by decide +kernel) ⟨Nat.le_of_ble_eq_true rfl, Nat.le_of_ble_eq_true rfl⟩, (hts _ (mP (lw25))), (hts _ (mP (lw26)))⟩
theorem f_P9_line_39 : xFld M_P9_line 39 11 5 true (tyX9 5) := ⟨RX9, TX9, 8, tyX9, rfl, by decide, fun w h => mP (inX9 w h), mP (lw6), tyX9_ok, nmX9, rfl, rfl, rfl⟩
theorem lw27 : (Jvm.Cond.code ({ cls := "java/lang/StringBuilder", name := "setLength", desc := "(I)V" } : Jvm.MethodName) prog_31_method_89_code (2 : Nat) (Option.none : Option Jvm.ClassFile.FieldType)) ∈ xAll := xin5 (List.mem_of_getElem? (i := 147) (by decide +kernel)) (by decide +kernel)
theorem lw28 : (Jvm.Cond.methodLink "TubHire" (191 : Nat) ({ cls := "java/lang/StringBuilder", name := "setLength", desc := "(I)V" } : Jvm.MethodName)) ∈ xAll := xin5 (List.mem_of_getElem? (i := 144) (by decide +kernel)) (by decide +kernel)
theorem lw29 : (Jvm.Cond.instanceMethod ({ cls := "java/lang/StringBuilder", name := "setLength", desc := "(I)V" } : Jvm.MethodName)) ∈ xAll := xin5 (List.mem_of_getElem? (i := 145) (by decide +kernel)) (by decide +kernel)
theorem lw30 : (Jvm.Cond.selects "java/lang/StringBuilder" ({ cls := "java/lang/StringBuilder", name := "setLength", desc := "(I)V" } : Jvm.MethodName) ({ cls := "java/lang/StringBuilder", name := "setLength", desc := "(I)V" } : Jvm.MethodName)) ∈ xAll := xin5 (List.mem_of_getElem? (i := 146) (by decide +kernel)) (by decide +kernel)
theorem s_P9_line_191 : xSv M_P9_line M_J4_setLength_d00df 191 1 := fun s args hts => ⟨liftB (callB_of 1 (htsP hts) (xGood lw27) rfl rfl rfl (hts _ (mP (lw8))) (hts _ (mP (lw28))) (by decide +kernel) ⟨Nat.le_of_ble_eq_true rfl, Nat.le_of_ble_eq_true rfl⟩) (htsQ hts), (hts _ (mP (lw29))), (hts _ (mP (lw30)))⟩
theorem s_P9_line_195 : xSv M_P9_line M_J4_append_bf812 195 1 := fun s args hts => ⟨liftB (callB_of 1 (htsP hts) (xGood lw16) rfl rfl rfl (hts _ (mP (lw8))) (hts _ (mP (lw17))) (by decide +kernel) ⟨Nat.le_of_ble_eq_true rfl, Nat.le_of_ble_eq_true rfl⟩) (htsQ hts), (hts _ (mP (lw18))), (hts _ (mP (lw19)))⟩
theorem s_P9_line_199 : xSv M_P9_line M_J4_append_cf468 199 1 := fun s args hts => ⟨liftB (callB_of 1 (htsP hts) (xGood lw12) rfl rfl rfl (hts _ (mP (lw8))) (hts _ (mP (lw13))) (by decide +kernel) ⟨Nat.le_of_ble_eq_true rfl, Nat.le_of_ble_eq_true rfl⟩) (htsQ hts), (hts _ (mP (lw14))), (hts _ (mP (lw15)))⟩
theorem lw31 : (Jvm.Cond.fieldLink "TubHire" (202 : Nat) "TubHire$Tent" "tub" "I") ∈ xAll := xin1 (List.mem_of_getElem? (i := 119) (by decide +kernel)) (by decide +kernel)
theorem f_P9_line_202 : xFld M_P9_line 202 8 1 false (tyX6 1) := ⟨RX6, TX6, 6, tyX6, rfl, by decide, fun w h => mP (inX6 w h), mP (lw31), tyX6_ok, nmX6, rfl, rfl, rfl⟩
theorem lw32 : (Jvm.Cond.code ({ cls := "TubHire", name := "appendTub", desc := "(I)V" } : Jvm.MethodName) prog_1_method_41_code (3 : Nat) (Option.none : Option Jvm.ClassFile.FieldType)) ∈ xAll := xin5 (List.mem_of_getElem? (i := 201) (by decide +kernel)) (by decide +kernel)
theorem lw33 : (Jvm.Cond.initialized "TubHire") ∈ xAll := xin1 (List.mem_of_getElem? (i := 1) (by decide +kernel)) (by decide +kernel)
theorem lw34 : (Jvm.Cond.methodLink "TubHire" (205 : Nat) ({ cls := "TubHire", name := "appendTub", desc := "(I)V" } : Jvm.MethodName)) ∈ xAll := xin5 (List.mem_of_getElem? (i := 198) (by decide +kernel)) (by decide +kernel)
theorem lw35 : (Jvm.Cond.instanceMethod ({ cls := "TubHire", name := "appendTub", desc := "(I)V" } : Jvm.MethodName)) ∈ xAll := xin5 (List.mem_of_getElem? (i := 200) (by decide +kernel)) (by decide +kernel)
theorem ls_P9_line_205 : (Jvm.Cond.selects "TubHire" ({ cls := "TubHire", name := "appendTub", desc := "(I)V" } : Jvm.MethodName) ({ cls := "TubHire", name := "appendTub", desc := "(I)V" } : Jvm.MethodName)) ∈ xAll := xin0 (List.mem_of_getElem? (i := 2) (by decide +kernel)) (by decide +kernel)
theorem s_P9_line_205 : xSv M_P9_line M_P9_appendTub 205 1 := fun s args hts => ⟨liftB (callB_of 1 (htsP hts) (xGood lw32) rfl rfl rfl (hts _ (mP (lw33))) (hts _ (mP (lw34))) (by decide +kernel) ⟨Nat.le_of_ble_eq_true rfl, Nat.le_of_ble_eq_true rfl⟩) (htsQ hts), (hts _ (mP (lw35))), (hts _ (mP (ls_P9_line_205)))⟩
theorem lw36 : (Jvm.Cond.fieldLink "TubHire" (208 : Nat) "TubHire$Tent" "heater" "I") ∈ xAll := xin1 (List.mem_of_getElem? (i := 122) (by decide +kernel)) (by decide +kernel)
theorem f_P9_line_208 : xFld M_P9_line 208 8 2 false (tyX6 2) := ⟨RX6, TX6, 6, tyX6, rfl, by decide, fun w h => mP (inX6 w h), mP (lw36), tyX6_ok, nmX6, rfl, rfl, rfl⟩
theorem lw37 : (Jvm.Cond.code ({ cls := "TubHire$Store", name := "heaterAt", desc := "(I)LTubHire$Heater;" } : Jvm.MethodName) prog_7_method_5_code (2 : Nat) (Option.some (Jvm.ClassFile.FieldType.object "TubHire$Heater"))) ∈ xAll := xin3 (List.mem_of_getElem? (i := 100) (by decide +kernel)) (by decide +kernel)
theorem lw38 : (Jvm.Cond.methodLink "TubHire" (141 : Nat) ({ cls := "TubHire$Store", name := "heaterAt", desc := "(I)LTubHire$Heater;" } : Jvm.MethodName)) ∈ xAll := xin4 (List.mem_of_getElem? (i := 99) (by decide +kernel)) (by decide +kernel)
theorem lw39 : (Jvm.Cond.instanceMethod ({ cls := "TubHire$Store", name := "heaterAt", desc := "(I)LTubHire$Heater;" } : Jvm.MethodName)) ∈ xAll := xin3 (List.mem_of_getElem? (i := 98) (by decide +kernel)) (by decide +kernel)
theorem lw40 : (Jvm.Cond.selects "TubHire$Store" ({ cls := "TubHire$Store", name := "heaterAt", desc := "(I)LTubHire$Heater;" } : Jvm.MethodName) ({ cls := "TubHire$Store", name := "heaterAt", desc := "(I)LTubHire$Heater;" } : Jvm.MethodName)) ∈ xAll := xin3 (List.mem_of_getElem? (i := 99) (by decide +kernel)) (by decide +kernel)
theorem s_P9_line_141 : xSv M_P9_line M_X5_heaterAt 141 1 := fun s args hts => ⟨callB_of 1 (htsP hts) (xGood lw37) rfl rfl rfl (hts _ (mP (lw2))) (hts _ (mP (lw38))) (by decide +kernel) ⟨Nat.le_of_ble_eq_true rfl, Nat.le_of_ble_eq_true rfl⟩, (hts _ (mP (lw39))), (hts _ (mP (lw40)))⟩
theorem s_P9_line_213 : xSv M_P9_line M_J4_append_15ec4 213 1 := fun s args hts => ⟨liftB (callB_of 1 (htsP hts) (xGood lw7) rfl rfl rfl (hts _ (mP (lw8))) (hts _ (mP (lw9))) (by decide +kernel) ⟨Nat.le_of_ble_eq_true rfl, Nat.le_of_ble_eq_true rfl⟩) (htsQ hts), (hts _ (mP (lw10))), (hts _ (mP (lw11)))⟩
theorem lw41 : (Jvm.Cond.fieldLink "TubHire" (147 : Nat) "TubHire$Heater" "gas" "I") ∈ xAll := xin1 (List.mem_of_getElem? (i := 149) (by decide +kernel)) (by decide +kernel)
theorem f_P9_line_147 : xFld M_P9_line 147 4 0 false (tyX2 0) := ⟨RX2, TX2, 2, tyX2, rfl, by decide, fun w h => mP (inX2 w h), mP (lw41), tyX2_ok, nmX2, rfl, rfl, rfl⟩
theorem lw42 : (Jvm.Cond.fieldLink "TubHire" (216 : Nat) "TubHire$Tent" "waiting" "I") ∈ xAll := xin1 (List.mem_of_getElem? (i := 125) (by decide +kernel)) (by decide +kernel)
theorem f_P9_line_216 : xFld M_P9_line 216 8 3 false (tyX6 3) := ⟨RX6, TX6, 6, tyX6, rfl, by decide, fun w h => mP (inX6 w h), mP (lw42), tyX6_ok, nmX6, rfl, rfl, rfl⟩
theorem lw43 : (Jvm.Cond.code ({ cls := "java/lang/StringBuilder", name := "length", desc := "()I" } : Jvm.MethodName) prog_31_method_93_code (1 : Nat) (Option.some Jvm.ClassFile.FieldType.int)) ∈ xAll := xin5 (List.mem_of_getElem? (i := 97) (by decide +kernel)) (by decide +kernel)
theorem lw44 : (Jvm.Cond.methodLink "TubHire" (221 : Nat) ({ cls := "java/lang/StringBuilder", name := "length", desc := "()I" } : Jvm.MethodName)) ∈ xAll := xin5 (List.mem_of_getElem? (i := 207) (by decide +kernel)) (by decide +kernel)
theorem lw45 : (Jvm.Cond.instanceMethod ({ cls := "java/lang/StringBuilder", name := "length", desc := "()I" } : Jvm.MethodName)) ∈ xAll := xin5 (List.mem_of_getElem? (i := 96) (by decide +kernel)) (by decide +kernel)
theorem lw46 : (Jvm.Cond.selects "java/lang/StringBuilder" ({ cls := "java/lang/StringBuilder", name := "length", desc := "()I" } : Jvm.MethodName) ({ cls := "java/lang/StringBuilder", name := "length", desc := "()I" } : Jvm.MethodName)) ∈ xAll := xin6 (List.mem_of_getElem? (i := 213) (by decide +kernel)) (by decide +kernel)
theorem s_P9_line_221 : xSv M_P9_line M_J4_length_8abf5 221 0 := fun s args hts => ⟨callB_of 0 (htsP hts) (xGood lw43) rfl rfl rfl (hts _ (mP (lw8))) (hts _ (mP (lw44))) (by decide +kernel) ⟨Nat.le_of_ble_eq_true rfl, Nat.le_of_ble_eq_true rfl⟩, (hts _ (mP (lw45))), (hts _ (mP (lw46)))⟩
set_option maxRecDepth 100000 in
set_option maxHeartbeats 4000000 in
theorem ct_P9_line_out {E : xE} {Po : xPo} {w : xW} {x : Nat} {h : xHi} {z : Int32} {l0 : List Int32} (H : HI E w x h) (hL : hasL h.2.2.2.2 l0) (hD : inD (h.1 0)) (ht : ¬ okU (h.1 0) z) (hp : ∀ u, HI E u x h → Fr w u x h → Po (.inr "java/lang/IndexOutOfBoundsException") u) : Ct M_P9_line E [.ref x, .int z] w Po := by
  refine Ct.of (ws2 := xPv ++ xAll) (L := [some (.ref x), some (.int z), none, none]) (by decide +kernel) rfl rfl (List.forall_mem_cons.mpr ⟨rfl, List.forall_mem_cons.mpr ⟨rfl, fun _ h => absurd h List.not_mem_nil⟩⟩) (Nat.le_of_ble_eq_true rfl) rfl ?_
  refine r_aload_n (q := 1) dX9_line_0 rfl rfl rfl ?_
  refine r_getfield (q := 4) dX9_line_1 f_P9_line_10 H.1.1 rfl rfl ?_
  refine r_iload_n (q := 5) dX9_line_4 rfl rfl rfl ?_
  refine r_callV (q := 8) (ci := 7) (As := [_]) dX9_line_5 s_P9_line_119 (H.2.1.1 0 (by decide)) rfl rfl rfl (Nat.le_of_ble_eq_true rfl) rfl rfl rfl (Nat.le_of_ble_eq_true rfl) (Nat.le_of_ble_eq_true rfl) ⟨(Nat.le_of_ble_eq_true rfl), (Nat.le_of_ble_eq_true rfl)⟩ rfl ?_
  refine Ct.cw H.2.1.1.eq.symm (ct_X5_tentAt_out ht ?_)
  show WF _ E Po _ _ _ _ _ _ _
  refine WF.cw H.2.1.1.eq ?_
  refine r_astore_nN (q := 9) dX9_line_8 rfl (Nat.le_of_ble_eq_true rfl) (xone_of rfl) rfl ?_
  refine r_aload_nN (q := 10) dX9_line_9 rfl rfl rfl ?_
  refine r_ifnonnullN (q := 13) dX9_line_10 rfl ?_
  exact r_throwS (i := 8) (by decide +kernel) th_nm (by decide) (fun _ h => mP h) th_IO tk_IO ti_IO rfl dX9_line_13 dX9_line_16 dX9_line_17 dX9_line_19 dX9_line_22 rfl (Nat.le_of_ble_eq_true rfl) (Nat.le_of_ble_eq_true rfl) (Nat.le_of_ble_eq_true rfl) (Nat.le_of_ble_eq_true rfl) (Nat.le_of_ble_eq_true rfl) (Nat.le_of_ble_eq_true rfl) (fun z hz => hp _ (H.sz hz) (Fr.id.sz hz))
set_option maxRecDepth 100000 in
set_option maxHeartbeats 4000000 in
theorem ct_P9_line_0 {E : xE} {Po : xPo} {w : xW} {x j : Nat} {h : xHi} {l0 : List Int32} (H : HI E w x h) (hL : hasL h.2.2.2.2 l0) (hD : inD (h.1 0)) (hj : j < 5) (ht : okU (h.1 0) (nI j)) (hgo : ¬ okG (h.1 0) ((h.1 0).2.2.1 j 2)) (hw0 : (h.1 0).2.2.1 j 4 ≤ 0) (hp : ∀ u B, LN E w x h u B (lineC (h.1 0) j) → Po (.inl (some (.int (nI (lineC (h.1 0) j).length)))) u) : Ct M_P9_line E [.ref x, .int (nI j)] w Po := by
  refine Ct.of (ws2 := xPv ++ xAll) (L := [some (.ref x), some (.int (nI j)), none, none]) (by decide +kernel) rfl rfl (List.forall_mem_cons.mpr ⟨rfl, List.forall_mem_cons.mpr ⟨rfl, fun _ h => absurd h List.not_mem_nil⟩⟩) (Nat.le_of_ble_eq_true rfl) rfl ?_
  have d0 : l0.length < 1000 := by have h1 := hL.2.1; have h2 := hL.2.2.1; omega
  have d1 := @digs_len j
  have d4 := @tbx_len (h.1 0) ((h.1 0).2.2.1 j 1)
  refine r_aload_n (q := 1) dX9_line_0 rfl rfl rfl ?_
  refine r_getfield (q := 4) dX9_line_1 f_P9_line_10 H.1.1 rfl rfl ?_
  refine r_iload_n (q := 5) dX9_line_4 rfl rfl rfl ?_
  refine r_callV (q := 8) (ci := 7) (As := [_]) dX9_line_5 s_P9_line_119 (H.2.1.1 0 (by decide)) rfl rfl rfl (Nat.le_of_ble_eq_true rfl) rfl rfl rfl (Nat.le_of_ble_eq_true rfl) (Nat.le_of_ble_eq_true rfl) ⟨(Nat.le_of_ble_eq_true rfl), (Nat.le_of_ble_eq_true rfl)⟩ rfl ?_
  refine Ct.cw H.2.1.1.eq.symm (ct_X5_tentAt_in hj ht ?_)
  show WF _ E Po _ _ _ _ _ _ _
  refine WF.cw H.2.1.1.eq ?_
  have N : LN E w x h w h.2.2.2.2 l0 := ⟨H, hL, FB.id⟩
  clear H
  refine r_astore_n (q := 9) dX9_line_8 rfl (Nat.le_of_ble_eq_true rfl) (xone_of rfl) rfl ?_
  refine r_aload_n (q := 10) dX9_line_9 rfl rfl rfl ?_
  refine r_ifnonnull (q := 23) dX9_line_10 (by decide) ?_
  refine r_aload_n (q := 24) dX9_line_23 rfl rfl rfl ?_
  refine r_getfield (q := 27) dX9_line_24 f_P9_line_39 N.H.1.1 rfl rfl ?_
  refine r_iconst (q := 28) (v := 0) dX9_line_27 rfl rfl ?_
  refine r_callV (q := 31) (ci := 1) (As := [_]) dX9_line_28 s_P9_line_191 N.H.2.2.2.1 rfl rfl rfl (Nat.le_of_ble_eq_true rfl) rfl rfl rfl (Nat.le_of_ble_eq_true rfl) (Nat.le_of_ble_eq_true rfl) ⟨(Nat.le_of_ble_eq_true rfl), (Nat.le_of_ble_eq_true rfl)⟩ rfl ?_
  refine ct_J4_setLength_d00df N.H.hb N.L (by omega) (fun u B H3 L3 F3 => ?_)
  show WF _ E Po _ _ _ _ _ _ _
  replace N := N.step H3 L3 F3
  clear H3 L3 F3
  refine r_aload_n (q := 32) dX9_line_31 rfl rfl rfl ?_
  refine r_getfield (q := 35) dX9_line_32 f_P9_line_39 N.H.1.1 rfl rfl ?_
  refine r_iload_n (q := 36) dX9_line_35 rfl rfl rfl ?_
  refine r_callV (q := 39) (ci := 1) (As := [_]) dX9_line_36 s_P9_line_195 N.H.2.2.2.1 rfl rfl rfl (Nat.le_of_ble_eq_true rfl) rfl rfl rfl (Nat.le_of_ble_eq_true rfl) (Nat.le_of_ble_eq_true rfl) ⟨(Nat.le_of_ble_eq_true rfl), (Nat.le_of_ble_eq_true rfl)⟩ rfl ?_
  refine ct_J4_append_bf812 N.H.hb N.L (show j < 1000 by omega) (by first | omega | (simp only [List.length_append, List.length_cons, List.length_nil, byt_lens]; omega)) (fun u B H3 L3 F3 => ?_)
  show WF _ E Po _ _ _ _ _ _ _
  replace N := N.step H3 L3 F3
  clear H3 L3 F3
  refine r_bipush (q := 41) (v := 58) dX9_line_39 (by decide) rfl ?_
  refine r_callV (q := 44) (ci := 1) (As := [_]) dX9_line_41 s_P9_line_199 N.H.2.2.2.1 rfl rfl rfl (Nat.le_of_ble_eq_true rfl) rfl rfl rfl (Nat.le_of_ble_eq_true rfl) (Nat.le_of_ble_eq_true rfl) ⟨(Nat.le_of_ble_eq_true rfl), (Nat.le_of_ble_eq_true rfl)⟩ rfl ?_
  refine ct_J4_append_cf468 N.H.hb N.L okc.2.2.2 (by first | omega | (simp only [List.length_append, List.length_cons, List.length_nil, byt_lens]; omega)) (fun u B H3 L3 F3 => ?_)
  show WF _ E Po _ _ _ _ _ _ _
  replace N := N.step H3 L3 F3
  clear H3 L3 F3
  refine r_pop (q := 45) dX9_line_44 rfl rfl ?_
  refine r_aload_n (q := 46) dX9_line_45 rfl rfl rfl ?_
  refine r_aload_n (q := 47) dX9_line_46 rfl rfl rfl ?_
  refine r_getfield (q := 50) dX9_line_47 f_P9_line_202 (N.H.2.1.1.atU hj) (by rfl) rfl ?_
  rw [show (sbH h B).1 0 = h.1 0 from rfl]
  refine r_callV (q := 53) (ci := 11) (As := [_]) dX9_line_50 s_P9_line_205 N.H.1.1 rfl rfl rfl (Nat.le_of_ble_eq_true rfl) rfl rfl rfl (Nat.le_of_ble_eq_true rfl) (Nat.le_of_ble_eq_true rfl) ⟨(Nat.le_of_ble_eq_true rfl), (Nat.le_of_ble_eq_true rfl)⟩ rfl ?_
  refine ct_P9_appendTub N (by first | omega | (simp only [List.length_append, List.length_cons, List.length_nil, byt_lens]; omega)) hD (fun u B N => ?_)
  show WF _ E Po _ _ _ _ _ _ _
  refine r_aload_n (q := 54) dX9_line_53 rfl rfl rfl ?_
  refine r_getfield (q := 57) dX9_line_54 f_P9_line_10 N.H.1.1 rfl rfl ?_
  refine r_aload_n (q := 58) dX9_line_57 rfl rfl rfl ?_
  refine r_getfield (q := 61) dX9_line_58 f_P9_line_208 (N.H.2.1.1.atU hj) (by rfl) rfl ?_
  rw [show (sbH h B).1 0 = h.1 0 from rfl]
  refine r_callV (q := 64) (ci := 7) (As := [_]) dX9_line_61 s_P9_line_141 (N.H.2.1.1 0 (by decide)) rfl rfl rfl (Nat.le_of_ble_eq_true rfl) rfl rfl rfl (Nat.le_of_ble_eq_true rfl) (Nat.le_of_ble_eq_true rfl) ⟨(Nat.le_of_ble_eq_true rfl), (Nat.le_of_ble_eq_true rfl)⟩ rfl ?_
  refine Ct.cw N.H.2.1.1.eq.symm (ct_X5_heaterAt_out hgo ?_)
  show WF _ E Po _ _ _ _ _ _ _
  refine WF.cw N.H.2.1.1.eq ?_
  refine r_astore_nN (q := 65) dX9_line_64 rfl (Nat.le_of_ble_eq_true rfl) (xone_of rfl) rfl ?_
  refine r_aload_nN (q := 66) dX9_line_65 rfl rfl rfl ?_
  refine r_ifnullN (q := 86) dX9_line_66 (by decide) ?_
  refine r_aload_n (q := 87) dX9_line_86 rfl rfl rfl ?_
  refine r_getfield (q := 90) dX9_line_87 f_P9_line_216 (N.H.2.1.1.atU hj) (by rfl) rfl ?_
  rw [show (sbH h B).1 0 = h.1 0 from rfl]
  refine r_if_le (q := 110) (q2 := 93) dX9_line_90 (by decide) rfl (fun _ => ?_) (fun h9 => absurd hw0 h9)
  refine r_aload_n (q := 111) dX9_line_110 rfl rfl rfl ?_
  refine r_getfield (q := 114) dX9_line_111 f_P9_line_39 N.H.1.1 rfl rfl ?_
  refine r_callV (q := 117) (ci := 1) (As := []) dX9_line_114 s_P9_line_221 N.H.2.2.2.1 rfl rfl rfl (Nat.le_of_ble_eq_true rfl) rfl rfl rfl (Nat.le_of_ble_eq_true rfl) (Nat.le_of_ble_eq_true rfl) ⟨(Nat.le_of_ble_eq_true rfl), (Nat.le_of_ble_eq_true rfl)⟩ rfl ?_
  refine ct_J4_length_8abf5 N.H.hb ?_
  show WF _ E Po _ _ _ _ _ _ _
  refine r_iret dX9_line_117 rfl (Nat.le_of_ble_eq_true rfl) (Nat.le_of_ble_eq_true rfl) ?_
  have N2 : LN E w x h u B (lineC (h.1 0) j) := by
    unfold lineC
    rw [if_neg hgo, List.nil_append]
    rw [if_pos hw0, List.append_nil]
    simpa only [List.append_assoc, List.nil_append] using N
  have e9 : B.2.2.2.1 = nI (lineC (h.1 0) j).length := N2.L.1
  show Po (.inl (some (.int B.2.2.2.1))) u
  rw [e9]
  exact hp u B N2
set_option maxRecDepth 100000 in
set_option maxHeartbeats 4000000 in
theorem ct_P9_line_1 {E : xE} {Po : xPo} {w : xW} {x j : Nat} {h : xHi} {l0 : List Int32} (H : HI E w x h) (hL : hasL h.2.2.2.2 l0) (hD : inD (h.1 0)) (hj : j < 5) (ht : okU (h.1 0) (nI j)) (hgo : ¬ okG (h.1 0) ((h.1 0).2.2.1 j 2)) {a : Nat} (hw0 : ¬ (h.1 0).2.2.1 j 4 ≤ 0) (ha : a < 1000) (ea : (h.1 0).2.2.1 j 4 = nI a) (hp : ∀ u B, LN E w x h u B (lineC (h.1 0) j) → Po (.inl (some (.int (nI (lineC (h.1 0) j).length)))) u) : Ct M_P9_line E [.ref x, .int (nI j)] w Po := by
  refine Ct.of (ws2 := xPv ++ xAll) (L := [some (.ref x), some (.int (nI j)), none, none]) (by decide +kernel) rfl rfl (List.forall_mem_cons.mpr ⟨rfl, List.forall_mem_cons.mpr ⟨rfl, fun _ h => absurd h List.not_mem_nil⟩⟩) (Nat.le_of_ble_eq_true rfl) rfl ?_
  have d0 : l0.length < 1000 := by have h1 := hL.2.1; have h2 := hL.2.2.1; omega
  have d1 := @digs_len j
  have d4 := @tbx_len (h.1 0) ((h.1 0).2.2.1 j 1)
  have d3 := @digs_len a
  refine r_aload_n (q := 1) dX9_line_0 rfl rfl rfl ?_
  refine r_getfield (q := 4) dX9_line_1 f_P9_line_10 H.1.1 rfl rfl ?_
  refine r_iload_n (q := 5) dX9_line_4 rfl rfl rfl ?_
  refine r_callV (q := 8) (ci := 7) (As := [_]) dX9_line_5 s_P9_line_119 (H.2.1.1 0 (by decide)) rfl rfl rfl (Nat.le_of_ble_eq_true rfl) rfl rfl rfl (Nat.le_of_ble_eq_true rfl) (Nat.le_of_ble_eq_true rfl) ⟨(Nat.le_of_ble_eq_true rfl), (Nat.le_of_ble_eq_true rfl)⟩ rfl ?_
  refine Ct.cw H.2.1.1.eq.symm (ct_X5_tentAt_in hj ht ?_)
  show WF _ E Po _ _ _ _ _ _ _
  refine WF.cw H.2.1.1.eq ?_
  have N : LN E w x h w h.2.2.2.2 l0 := ⟨H, hL, FB.id⟩
  clear H
  refine r_astore_n (q := 9) dX9_line_8 rfl (Nat.le_of_ble_eq_true rfl) (xone_of rfl) rfl ?_
  refine r_aload_n (q := 10) dX9_line_9 rfl rfl rfl ?_
  refine r_ifnonnull (q := 23) dX9_line_10 (by decide) ?_
  refine r_aload_n (q := 24) dX9_line_23 rfl rfl rfl ?_
  refine r_getfield (q := 27) dX9_line_24 f_P9_line_39 N.H.1.1 rfl rfl ?_
  refine r_iconst (q := 28) (v := 0) dX9_line_27 rfl rfl ?_
  refine r_callV (q := 31) (ci := 1) (As := [_]) dX9_line_28 s_P9_line_191 N.H.2.2.2.1 rfl rfl rfl (Nat.le_of_ble_eq_true rfl) rfl rfl rfl (Nat.le_of_ble_eq_true rfl) (Nat.le_of_ble_eq_true rfl) ⟨(Nat.le_of_ble_eq_true rfl), (Nat.le_of_ble_eq_true rfl)⟩ rfl ?_
  refine ct_J4_setLength_d00df N.H.hb N.L (by omega) (fun u B H3 L3 F3 => ?_)
  show WF _ E Po _ _ _ _ _ _ _
  replace N := N.step H3 L3 F3
  clear H3 L3 F3
  refine r_aload_n (q := 32) dX9_line_31 rfl rfl rfl ?_
  refine r_getfield (q := 35) dX9_line_32 f_P9_line_39 N.H.1.1 rfl rfl ?_
  refine r_iload_n (q := 36) dX9_line_35 rfl rfl rfl ?_
  refine r_callV (q := 39) (ci := 1) (As := [_]) dX9_line_36 s_P9_line_195 N.H.2.2.2.1 rfl rfl rfl (Nat.le_of_ble_eq_true rfl) rfl rfl rfl (Nat.le_of_ble_eq_true rfl) (Nat.le_of_ble_eq_true rfl) ⟨(Nat.le_of_ble_eq_true rfl), (Nat.le_of_ble_eq_true rfl)⟩ rfl ?_
  refine ct_J4_append_bf812 N.H.hb N.L (show j < 1000 by omega) (by first | omega | (simp only [List.length_append, List.length_cons, List.length_nil, byt_lens]; omega)) (fun u B H3 L3 F3 => ?_)
  show WF _ E Po _ _ _ _ _ _ _
  replace N := N.step H3 L3 F3
  clear H3 L3 F3
  refine r_bipush (q := 41) (v := 58) dX9_line_39 (by decide) rfl ?_
  refine r_callV (q := 44) (ci := 1) (As := [_]) dX9_line_41 s_P9_line_199 N.H.2.2.2.1 rfl rfl rfl (Nat.le_of_ble_eq_true rfl) rfl rfl rfl (Nat.le_of_ble_eq_true rfl) (Nat.le_of_ble_eq_true rfl) ⟨(Nat.le_of_ble_eq_true rfl), (Nat.le_of_ble_eq_true rfl)⟩ rfl ?_
  refine ct_J4_append_cf468 N.H.hb N.L okc.2.2.2 (by first | omega | (simp only [List.length_append, List.length_cons, List.length_nil, byt_lens]; omega)) (fun u B H3 L3 F3 => ?_)
  show WF _ E Po _ _ _ _ _ _ _
  replace N := N.step H3 L3 F3
  clear H3 L3 F3
  refine r_pop (q := 45) dX9_line_44 rfl rfl ?_
  refine r_aload_n (q := 46) dX9_line_45 rfl rfl rfl ?_
  refine r_aload_n (q := 47) dX9_line_46 rfl rfl rfl ?_
  refine r_getfield (q := 50) dX9_line_47 f_P9_line_202 (N.H.2.1.1.atU hj) (by rfl) rfl ?_
  rw [show (sbH h B).1 0 = h.1 0 from rfl]
  refine r_callV (q := 53) (ci := 11) (As := [_]) dX9_line_50 s_P9_line_205 N.H.1.1 rfl rfl rfl (Nat.le_of_ble_eq_true rfl) rfl rfl rfl (Nat.le_of_ble_eq_true rfl) (Nat.le_of_ble_eq_true rfl) ⟨(Nat.le_of_ble_eq_true rfl), (Nat.le_of_ble_eq_true rfl)⟩ rfl ?_
  refine ct_P9_appendTub N (by first | omega | (simp only [List.length_append, List.length_cons, List.length_nil, byt_lens]; omega)) hD (fun u B N => ?_)
  show WF _ E Po _ _ _ _ _ _ _
  refine r_aload_n (q := 54) dX9_line_53 rfl rfl rfl ?_
  refine r_getfield (q := 57) dX9_line_54 f_P9_line_10 N.H.1.1 rfl rfl ?_
  refine r_aload_n (q := 58) dX9_line_57 rfl rfl rfl ?_
  refine r_getfield (q := 61) dX9_line_58 f_P9_line_208 (N.H.2.1.1.atU hj) (by rfl) rfl ?_
  rw [show (sbH h B).1 0 = h.1 0 from rfl]
  refine r_callV (q := 64) (ci := 7) (As := [_]) dX9_line_61 s_P9_line_141 (N.H.2.1.1 0 (by decide)) rfl rfl rfl (Nat.le_of_ble_eq_true rfl) rfl rfl rfl (Nat.le_of_ble_eq_true rfl) (Nat.le_of_ble_eq_true rfl) ⟨(Nat.le_of_ble_eq_true rfl), (Nat.le_of_ble_eq_true rfl)⟩ rfl ?_
  refine Ct.cw N.H.2.1.1.eq.symm (ct_X5_heaterAt_out hgo ?_)
  show WF _ E Po _ _ _ _ _ _ _
  refine WF.cw N.H.2.1.1.eq ?_
  refine r_astore_nN (q := 65) dX9_line_64 rfl (Nat.le_of_ble_eq_true rfl) (xone_of rfl) rfl ?_
  refine r_aload_nN (q := 66) dX9_line_65 rfl rfl rfl ?_
  refine r_ifnullN (q := 86) dX9_line_66 (by decide) ?_
  refine r_aload_n (q := 87) dX9_line_86 rfl rfl rfl ?_
  refine r_getfield (q := 90) dX9_line_87 f_P9_line_216 (N.H.2.1.1.atU hj) (by rfl) rfl ?_
  rw [show (sbH h B).1 0 = h.1 0 from rfl]
  refine r_if_le (q := 110) (q2 := 93) dX9_line_90 (by decide) rfl (fun h9 => absurd h9 hw0) (fun _ => ?_)
  refine r_aload_n (q := 94) dX9_line_93 rfl rfl rfl ?_
  refine r_getfield (q := 97) dX9_line_94 f_P9_line_39 N.H.1.1 rfl rfl ?_
  refine r_ldcS (i := 17) (q := 99) dX9_line_97 rfl rfl ?_
  refine r_callV (q := 102) (ci := 1) (As := [_]) dX9_line_99 s_P9_line_213 N.H.2.2.2.1 rfl rfl rfl (Nat.le_of_ble_eq_true rfl) rfl rfl rfl (Nat.le_of_ble_eq_true rfl) (Nat.le_of_ble_eq_true rfl) ⟨(Nat.le_of_ble_eq_true rfl), (Nat.le_of_ble_eq_true rfl)⟩ rfl ?_
  refine ct_J4_append_15ec4 N.H.hb N.L (show 17 < 54 by decide) (by first | omega | (simp only [List.length_append, List.length_cons, List.length_nil, byt_lens]; omega)) (fun u B H3 L3 F3 => ?_)
  show WF _ E Po _ _ _ _ _ _ _
  replace N := N.step H3 L3 F3
  clear H3 L3 F3
  refine r_aload_n (q := 103) dX9_line_102 rfl rfl rfl ?_
  refine r_getfield (q := 106) dX9_line_103 f_P9_line_216 (N.H.2.1.1.atU hj) (by rfl) rfl ?_
  rw [show (sbH h B).1 0 = h.1 0 from rfl, ea]
  refine r_callV (q := 109) (ci := 1) (As := [_]) dX9_line_106 s_P9_line_195 N.H.2.2.2.1 rfl rfl rfl (Nat.le_of_ble_eq_true rfl) rfl rfl rfl (Nat.le_of_ble_eq_true rfl) (Nat.le_of_ble_eq_true rfl) ⟨(Nat.le_of_ble_eq_true rfl), (Nat.le_of_ble_eq_true rfl)⟩ rfl ?_
  refine ct_J4_append_bf812 N.H.hb N.L ha (by first | omega | (simp only [List.length_append, List.length_cons, List.length_nil, byt_lens]; omega)) (fun u B H3 L3 F3 => ?_)
  show WF _ E Po _ _ _ _ _ _ _
  replace N := N.step H3 L3 F3
  clear H3 L3 F3
  refine r_pop (q := 110) dX9_line_109 rfl rfl ?_
  refine r_aload_n (q := 111) dX9_line_110 rfl rfl rfl ?_
  refine r_getfield (q := 114) dX9_line_111 f_P9_line_39 N.H.1.1 rfl rfl ?_
  refine r_callV (q := 117) (ci := 1) (As := []) dX9_line_114 s_P9_line_221 N.H.2.2.2.1 rfl rfl rfl (Nat.le_of_ble_eq_true rfl) rfl rfl rfl (Nat.le_of_ble_eq_true rfl) (Nat.le_of_ble_eq_true rfl) ⟨(Nat.le_of_ble_eq_true rfl), (Nat.le_of_ble_eq_true rfl)⟩ rfl ?_
  refine ct_J4_length_8abf5 N.H.hb ?_
  show WF _ E Po _ _ _ _ _ _ _
  refine r_iret dX9_line_117 rfl (Nat.le_of_ble_eq_true rfl) (Nat.le_of_ble_eq_true rfl) ?_
  have N2 : LN E w x h u B (lineC (h.1 0) j) := by
    unfold lineC
    rw [if_neg hgo, List.nil_append]
    rw [if_neg hw0, ea, nI_cl (by omega)]
    simpa only [List.append_assoc, List.nil_append] using N
  have e9 : B.2.2.2.1 = nI (lineC (h.1 0) j).length := N2.L.1
  show Po (.inl (some (.int B.2.2.2.1))) u
  rw [e9]
  exact hp u B N2
set_option maxRecDepth 100000 in
set_option maxHeartbeats 4000000 in
theorem ct_P9_line_2 {E : xE} {Po : xPo} {w : xW} {x j : Nat} {h : xHi} {l0 : List Int32} (H : HI E w x h) (hL : hasL h.2.2.2.2 l0) (hD : inD (h.1 0)) (hj : j < 5) (ht : okU (h.1 0) (nI j)) {g b : Nat} (hg : g < 4) (eg : (h.1 0).2.2.1 j 2 = nI g) (hgo : okG (h.1 0) (nI g)) (hb : b < 1000) (eb : (h.1 0).2.2.2 g 0 = nI b) (hw0 : (h.1 0).2.2.1 j 4 ≤ 0) (hp : ∀ u B, LN E w x h u B (lineC (h.1 0) j) → Po (.inl (some (.int (nI (lineC (h.1 0) j).length)))) u) : Ct M_P9_line E [.ref x, .int (nI j)] w Po := by
  refine Ct.of (ws2 := xPv ++ xAll) (L := [some (.ref x), some (.int (nI j)), none, none]) (by decide +kernel) rfl rfl (List.forall_mem_cons.mpr ⟨rfl, List.forall_mem_cons.mpr ⟨rfl, fun _ h => absurd h List.not_mem_nil⟩⟩) (Nat.le_of_ble_eq_true rfl) rfl ?_
  have d0 : l0.length < 1000 := by have h1 := hL.2.1; have h2 := hL.2.2.1; omega
  have d1 := @digs_len j
  have d4 := @tbx_len (h.1 0) ((h.1 0).2.2.1 j 1)
  have d2 := @digs_len b
  refine r_aload_n (q := 1) dX9_line_0 rfl rfl rfl ?_
  refine r_getfield (q := 4) dX9_line_1 f_P9_line_10 H.1.1 rfl rfl ?_
  refine r_iload_n (q := 5) dX9_line_4 rfl rfl rfl ?_
  refine r_callV (q := 8) (ci := 7) (As := [_]) dX9_line_5 s_P9_line_119 (H.2.1.1 0 (by decide)) rfl rfl rfl (Nat.le_of_ble_eq_true rfl) rfl rfl rfl (Nat.le_of_ble_eq_true rfl) (Nat.le_of_ble_eq_true rfl) ⟨(Nat.le_of_ble_eq_true rfl), (Nat.le_of_ble_eq_true rfl)⟩ rfl ?_
  refine Ct.cw H.2.1.1.eq.symm (ct_X5_tentAt_in hj ht ?_)
  show WF _ E Po _ _ _ _ _ _ _
  refine WF.cw H.2.1.1.eq ?_
  have N : LN E w x h w h.2.2.2.2 l0 := ⟨H, hL, FB.id⟩
  clear H
  refine r_astore_n (q := 9) dX9_line_8 rfl (Nat.le_of_ble_eq_true rfl) (xone_of rfl) rfl ?_
  refine r_aload_n (q := 10) dX9_line_9 rfl rfl rfl ?_
  refine r_ifnonnull (q := 23) dX9_line_10 (by decide) ?_
  refine r_aload_n (q := 24) dX9_line_23 rfl rfl rfl ?_
  refine r_getfield (q := 27) dX9_line_24 f_P9_line_39 N.H.1.1 rfl rfl ?_
  refine r_iconst (q := 28) (v := 0) dX9_line_27 rfl rfl ?_
  refine r_callV (q := 31) (ci := 1) (As := [_]) dX9_line_28 s_P9_line_191 N.H.2.2.2.1 rfl rfl rfl (Nat.le_of_ble_eq_true rfl) rfl rfl rfl (Nat.le_of_ble_eq_true rfl) (Nat.le_of_ble_eq_true rfl) ⟨(Nat.le_of_ble_eq_true rfl), (Nat.le_of_ble_eq_true rfl)⟩ rfl ?_
  refine ct_J4_setLength_d00df N.H.hb N.L (by omega) (fun u B H3 L3 F3 => ?_)
  show WF _ E Po _ _ _ _ _ _ _
  replace N := N.step H3 L3 F3
  clear H3 L3 F3
  refine r_aload_n (q := 32) dX9_line_31 rfl rfl rfl ?_
  refine r_getfield (q := 35) dX9_line_32 f_P9_line_39 N.H.1.1 rfl rfl ?_
  refine r_iload_n (q := 36) dX9_line_35 rfl rfl rfl ?_
  refine r_callV (q := 39) (ci := 1) (As := [_]) dX9_line_36 s_P9_line_195 N.H.2.2.2.1 rfl rfl rfl (Nat.le_of_ble_eq_true rfl) rfl rfl rfl (Nat.le_of_ble_eq_true rfl) (Nat.le_of_ble_eq_true rfl) ⟨(Nat.le_of_ble_eq_true rfl), (Nat.le_of_ble_eq_true rfl)⟩ rfl ?_
  refine ct_J4_append_bf812 N.H.hb N.L (show j < 1000 by omega) (by first | omega | (simp only [List.length_append, List.length_cons, List.length_nil, byt_lens]; omega)) (fun u B H3 L3 F3 => ?_)
  show WF _ E Po _ _ _ _ _ _ _
  replace N := N.step H3 L3 F3
  clear H3 L3 F3
  refine r_bipush (q := 41) (v := 58) dX9_line_39 (by decide) rfl ?_
  refine r_callV (q := 44) (ci := 1) (As := [_]) dX9_line_41 s_P9_line_199 N.H.2.2.2.1 rfl rfl rfl (Nat.le_of_ble_eq_true rfl) rfl rfl rfl (Nat.le_of_ble_eq_true rfl) (Nat.le_of_ble_eq_true rfl) ⟨(Nat.le_of_ble_eq_true rfl), (Nat.le_of_ble_eq_true rfl)⟩ rfl ?_
  refine ct_J4_append_cf468 N.H.hb N.L okc.2.2.2 (by first | omega | (simp only [List.length_append, List.length_cons, List.length_nil, byt_lens]; omega)) (fun u B H3 L3 F3 => ?_)
  show WF _ E Po _ _ _ _ _ _ _
  replace N := N.step H3 L3 F3
  clear H3 L3 F3
  refine r_pop (q := 45) dX9_line_44 rfl rfl ?_
  refine r_aload_n (q := 46) dX9_line_45 rfl rfl rfl ?_
  refine r_aload_n (q := 47) dX9_line_46 rfl rfl rfl ?_
  refine r_getfield (q := 50) dX9_line_47 f_P9_line_202 (N.H.2.1.1.atU hj) (by rfl) rfl ?_
  rw [show (sbH h B).1 0 = h.1 0 from rfl]
  refine r_callV (q := 53) (ci := 11) (As := [_]) dX9_line_50 s_P9_line_205 N.H.1.1 rfl rfl rfl (Nat.le_of_ble_eq_true rfl) rfl rfl rfl (Nat.le_of_ble_eq_true rfl) (Nat.le_of_ble_eq_true rfl) ⟨(Nat.le_of_ble_eq_true rfl), (Nat.le_of_ble_eq_true rfl)⟩ rfl ?_
  refine ct_P9_appendTub N (by first | omega | (simp only [List.length_append, List.length_cons, List.length_nil, byt_lens]; omega)) hD (fun u B N => ?_)
  show WF _ E Po _ _ _ _ _ _ _
  refine r_aload_n (q := 54) dX9_line_53 rfl rfl rfl ?_
  refine r_getfield (q := 57) dX9_line_54 f_P9_line_10 N.H.1.1 rfl rfl ?_
  refine r_aload_n (q := 58) dX9_line_57 rfl rfl rfl ?_
  refine r_getfield (q := 61) dX9_line_58 f_P9_line_208 (N.H.2.1.1.atU hj) (by rfl) rfl ?_
  rw [show (sbH h B).1 0 = h.1 0 from rfl]
  rw [eg]
  refine r_callV (q := 64) (ci := 7) (As := [_]) dX9_line_61 s_P9_line_141 (N.H.2.1.1 0 (by decide)) rfl rfl rfl (Nat.le_of_ble_eq_true rfl) rfl rfl rfl (Nat.le_of_ble_eq_true rfl) (Nat.le_of_ble_eq_true rfl) ⟨(Nat.le_of_ble_eq_true rfl), (Nat.le_of_ble_eq_true rfl)⟩ rfl ?_
  refine Ct.cw N.H.2.1.1.eq.symm (ct_X5_heaterAt_in hg hgo ?_)
  show WF _ E Po _ _ _ _ _ _ _
  refine WF.cw N.H.2.1.1.eq ?_
  refine r_astore_n (q := 65) dX9_line_64 rfl (Nat.le_of_ble_eq_true rfl) (xone_of rfl) rfl ?_
  refine r_aload_n (q := 66) dX9_line_65 rfl rfl rfl ?_
  refine r_ifnull (q := 69) dX9_line_66 rfl ?_
  refine r_aload_n (q := 70) dX9_line_69 rfl rfl rfl ?_
  refine r_getfield (q := 73) dX9_line_70 f_P9_line_39 N.H.1.1 rfl rfl ?_
  refine r_ldcS (i := 16) (q := 75) dX9_line_73 rfl rfl ?_
  refine r_callV (q := 78) (ci := 1) (As := [_]) dX9_line_75 s_P9_line_213 N.H.2.2.2.1 rfl rfl rfl (Nat.le_of_ble_eq_true rfl) rfl rfl rfl (Nat.le_of_ble_eq_true rfl) (Nat.le_of_ble_eq_true rfl) ⟨(Nat.le_of_ble_eq_true rfl), (Nat.le_of_ble_eq_true rfl)⟩ rfl ?_
  refine ct_J4_append_15ec4 N.H.hb N.L (show 16 < 54 by decide) (by first | omega | (simp only [List.length_append, List.length_cons, List.length_nil, byt_lens]; omega)) (fun u B H3 L3 F3 => ?_)
  show WF _ E Po _ _ _ _ _ _ _
  replace N := N.step H3 L3 F3
  clear H3 L3 F3
  refine r_aload_n (q := 79) dX9_line_78 rfl rfl rfl ?_
  refine r_getfield (q := 82) dX9_line_79 f_P9_line_147 (N.H.2.1.1.atG hg) (by rfl) rfl ?_
  rw [show (sbH h B).1 0 = h.1 0 from rfl, eb]
  refine r_callV (q := 85) (ci := 1) (As := [_]) dX9_line_82 s_P9_line_195 N.H.2.2.2.1 rfl rfl rfl (Nat.le_of_ble_eq_true rfl) rfl rfl rfl (Nat.le_of_ble_eq_true rfl) (Nat.le_of_ble_eq_true rfl) ⟨(Nat.le_of_ble_eq_true rfl), (Nat.le_of_ble_eq_true rfl)⟩ rfl ?_
  refine ct_J4_append_bf812 N.H.hb N.L hb (by first | omega | (simp only [List.length_append, List.length_cons, List.length_nil, byt_lens]; omega)) (fun u B H3 L3 F3 => ?_)
  show WF _ E Po _ _ _ _ _ _ _
  replace N := N.step H3 L3 F3
  clear H3 L3 F3
  refine r_pop (q := 86) dX9_line_85 rfl rfl ?_
  refine r_aload_n (q := 87) dX9_line_86 rfl rfl rfl ?_
  refine r_getfield (q := 90) dX9_line_87 f_P9_line_216 (N.H.2.1.1.atU hj) (by rfl) rfl ?_
  rw [show (sbH h B).1 0 = h.1 0 from rfl]
  refine r_if_le (q := 110) (q2 := 93) dX9_line_90 (by decide) rfl (fun _ => ?_) (fun h9 => absurd hw0 h9)
  refine r_aload_n (q := 111) dX9_line_110 rfl rfl rfl ?_
  refine r_getfield (q := 114) dX9_line_111 f_P9_line_39 N.H.1.1 rfl rfl ?_
  refine r_callV (q := 117) (ci := 1) (As := []) dX9_line_114 s_P9_line_221 N.H.2.2.2.1 rfl rfl rfl (Nat.le_of_ble_eq_true rfl) rfl rfl rfl (Nat.le_of_ble_eq_true rfl) (Nat.le_of_ble_eq_true rfl) ⟨(Nat.le_of_ble_eq_true rfl), (Nat.le_of_ble_eq_true rfl)⟩ rfl ?_
  refine ct_J4_length_8abf5 N.H.hb ?_
  show WF _ E Po _ _ _ _ _ _ _
  refine r_iret dX9_line_117 rfl (Nat.le_of_ble_eq_true rfl) (Nat.le_of_ble_eq_true rfl) ?_
  have N2 : LN E w x h u B (lineC (h.1 0) j) := by
    unfold lineC
    rw [eg, if_pos hgo, nI_cl (by omega), eb, nI_cl (by omega)]
    rw [if_pos hw0, List.append_nil]
    simpa only [List.append_assoc, List.nil_append] using N
  have e9 : B.2.2.2.1 = nI (lineC (h.1 0) j).length := N2.L.1
  show Po (.inl (some (.int B.2.2.2.1))) u
  rw [e9]
  exact hp u B N2
set_option maxRecDepth 100000 in
set_option maxHeartbeats 4000000 in
theorem ct_P9_line_3 {E : xE} {Po : xPo} {w : xW} {x j : Nat} {h : xHi} {l0 : List Int32} (H : HI E w x h) (hL : hasL h.2.2.2.2 l0) (hD : inD (h.1 0)) (hj : j < 5) (ht : okU (h.1 0) (nI j)) {g b : Nat} (hg : g < 4) (eg : (h.1 0).2.2.1 j 2 = nI g) (hgo : okG (h.1 0) (nI g)) (hb : b < 1000) (eb : (h.1 0).2.2.2 g 0 = nI b) {a : Nat} (hw0 : ¬ (h.1 0).2.2.1 j 4 ≤ 0) (ha : a < 1000) (ea : (h.1 0).2.2.1 j 4 = nI a) (hp : ∀ u B, LN E w x h u B (lineC (h.1 0) j) → Po (.inl (some (.int (nI (lineC (h.1 0) j).length)))) u) : Ct M_P9_line E [.ref x, .int (nI j)] w Po := by
  refine Ct.of (ws2 := xPv ++ xAll) (L := [some (.ref x), some (.int (nI j)), none, none]) (by decide +kernel) rfl rfl (List.forall_mem_cons.mpr ⟨rfl, List.forall_mem_cons.mpr ⟨rfl, fun _ h => absurd h List.not_mem_nil⟩⟩) (Nat.le_of_ble_eq_true rfl) rfl ?_
  have d0 : l0.length < 1000 := by have h1 := hL.2.1; have h2 := hL.2.2.1; omega
  have d1 := @digs_len j
  have d4 := @tbx_len (h.1 0) ((h.1 0).2.2.1 j 1)
  have d2 := @digs_len b
  have d3 := @digs_len a
  refine r_aload_n (q := 1) dX9_line_0 rfl rfl rfl ?_
  refine r_getfield (q := 4) dX9_line_1 f_P9_line_10 H.1.1 rfl rfl ?_
  refine r_iload_n (q := 5) dX9_line_4 rfl rfl rfl ?_
  refine r_callV (q := 8) (ci := 7) (As := [_]) dX9_line_5 s_P9_line_119 (H.2.1.1 0 (by decide)) rfl rfl rfl (Nat.le_of_ble_eq_true rfl) rfl rfl rfl (Nat.le_of_ble_eq_true rfl) (Nat.le_of_ble_eq_true rfl) ⟨(Nat.le_of_ble_eq_true rfl), (Nat.le_of_ble_eq_true rfl)⟩ rfl ?_
  refine Ct.cw H.2.1.1.eq.symm (ct_X5_tentAt_in hj ht ?_)
  show WF _ E Po _ _ _ _ _ _ _
  refine WF.cw H.2.1.1.eq ?_
  have N : LN E w x h w h.2.2.2.2 l0 := ⟨H, hL, FB.id⟩
  clear H
  refine r_astore_n (q := 9) dX9_line_8 rfl (Nat.le_of_ble_eq_true rfl) (xone_of rfl) rfl ?_
  refine r_aload_n (q := 10) dX9_line_9 rfl rfl rfl ?_
  refine r_ifnonnull (q := 23) dX9_line_10 (by decide) ?_
  refine r_aload_n (q := 24) dX9_line_23 rfl rfl rfl ?_
  refine r_getfield (q := 27) dX9_line_24 f_P9_line_39 N.H.1.1 rfl rfl ?_
  refine r_iconst (q := 28) (v := 0) dX9_line_27 rfl rfl ?_
  refine r_callV (q := 31) (ci := 1) (As := [_]) dX9_line_28 s_P9_line_191 N.H.2.2.2.1 rfl rfl rfl (Nat.le_of_ble_eq_true rfl) rfl rfl rfl (Nat.le_of_ble_eq_true rfl) (Nat.le_of_ble_eq_true rfl) ⟨(Nat.le_of_ble_eq_true rfl), (Nat.le_of_ble_eq_true rfl)⟩ rfl ?_
  refine ct_J4_setLength_d00df N.H.hb N.L (by omega) (fun u B H3 L3 F3 => ?_)
  show WF _ E Po _ _ _ _ _ _ _
  replace N := N.step H3 L3 F3
  clear H3 L3 F3
  refine r_aload_n (q := 32) dX9_line_31 rfl rfl rfl ?_
  refine r_getfield (q := 35) dX9_line_32 f_P9_line_39 N.H.1.1 rfl rfl ?_
  refine r_iload_n (q := 36) dX9_line_35 rfl rfl rfl ?_
  refine r_callV (q := 39) (ci := 1) (As := [_]) dX9_line_36 s_P9_line_195 N.H.2.2.2.1 rfl rfl rfl (Nat.le_of_ble_eq_true rfl) rfl rfl rfl (Nat.le_of_ble_eq_true rfl) (Nat.le_of_ble_eq_true rfl) ⟨(Nat.le_of_ble_eq_true rfl), (Nat.le_of_ble_eq_true rfl)⟩ rfl ?_
  refine ct_J4_append_bf812 N.H.hb N.L (show j < 1000 by omega) (by first | omega | (simp only [List.length_append, List.length_cons, List.length_nil, byt_lens]; omega)) (fun u B H3 L3 F3 => ?_)
  show WF _ E Po _ _ _ _ _ _ _
  replace N := N.step H3 L3 F3
  clear H3 L3 F3
  refine r_bipush (q := 41) (v := 58) dX9_line_39 (by decide) rfl ?_
  refine r_callV (q := 44) (ci := 1) (As := [_]) dX9_line_41 s_P9_line_199 N.H.2.2.2.1 rfl rfl rfl (Nat.le_of_ble_eq_true rfl) rfl rfl rfl (Nat.le_of_ble_eq_true rfl) (Nat.le_of_ble_eq_true rfl) ⟨(Nat.le_of_ble_eq_true rfl), (Nat.le_of_ble_eq_true rfl)⟩ rfl ?_
  refine ct_J4_append_cf468 N.H.hb N.L okc.2.2.2 (by first | omega | (simp only [List.length_append, List.length_cons, List.length_nil, byt_lens]; omega)) (fun u B H3 L3 F3 => ?_)
  show WF _ E Po _ _ _ _ _ _ _
  replace N := N.step H3 L3 F3
  clear H3 L3 F3
  refine r_pop (q := 45) dX9_line_44 rfl rfl ?_
  refine r_aload_n (q := 46) dX9_line_45 rfl rfl rfl ?_
  refine r_aload_n (q := 47) dX9_line_46 rfl rfl rfl ?_
  refine r_getfield (q := 50) dX9_line_47 f_P9_line_202 (N.H.2.1.1.atU hj) (by rfl) rfl ?_
  rw [show (sbH h B).1 0 = h.1 0 from rfl]
  refine r_callV (q := 53) (ci := 11) (As := [_]) dX9_line_50 s_P9_line_205 N.H.1.1 rfl rfl rfl (Nat.le_of_ble_eq_true rfl) rfl rfl rfl (Nat.le_of_ble_eq_true rfl) (Nat.le_of_ble_eq_true rfl) ⟨(Nat.le_of_ble_eq_true rfl), (Nat.le_of_ble_eq_true rfl)⟩ rfl ?_
  refine ct_P9_appendTub N (by first | omega | (simp only [List.length_append, List.length_cons, List.length_nil, byt_lens]; omega)) hD (fun u B N => ?_)
  show WF _ E Po _ _ _ _ _ _ _
  refine r_aload_n (q := 54) dX9_line_53 rfl rfl rfl ?_
  refine r_getfield (q := 57) dX9_line_54 f_P9_line_10 N.H.1.1 rfl rfl ?_
  refine r_aload_n (q := 58) dX9_line_57 rfl rfl rfl ?_
  refine r_getfield (q := 61) dX9_line_58 f_P9_line_208 (N.H.2.1.1.atU hj) (by rfl) rfl ?_
  rw [show (sbH h B).1 0 = h.1 0 from rfl]
  rw [eg]
  refine r_callV (q := 64) (ci := 7) (As := [_]) dX9_line_61 s_P9_line_141 (N.H.2.1.1 0 (by decide)) rfl rfl rfl (Nat.le_of_ble_eq_true rfl) rfl rfl rfl (Nat.le_of_ble_eq_true rfl) (Nat.le_of_ble_eq_true rfl) ⟨(Nat.le_of_ble_eq_true rfl), (Nat.le_of_ble_eq_true rfl)⟩ rfl ?_
  refine Ct.cw N.H.2.1.1.eq.symm (ct_X5_heaterAt_in hg hgo ?_)
  show WF _ E Po _ _ _ _ _ _ _
  refine WF.cw N.H.2.1.1.eq ?_
  refine r_astore_n (q := 65) dX9_line_64 rfl (Nat.le_of_ble_eq_true rfl) (xone_of rfl) rfl ?_
  refine r_aload_n (q := 66) dX9_line_65 rfl rfl rfl ?_
  refine r_ifnull (q := 69) dX9_line_66 rfl ?_
  refine r_aload_n (q := 70) dX9_line_69 rfl rfl rfl ?_
  refine r_getfield (q := 73) dX9_line_70 f_P9_line_39 N.H.1.1 rfl rfl ?_
  refine r_ldcS (i := 16) (q := 75) dX9_line_73 rfl rfl ?_
  refine r_callV (q := 78) (ci := 1) (As := [_]) dX9_line_75 s_P9_line_213 N.H.2.2.2.1 rfl rfl rfl (Nat.le_of_ble_eq_true rfl) rfl rfl rfl (Nat.le_of_ble_eq_true rfl) (Nat.le_of_ble_eq_true rfl) ⟨(Nat.le_of_ble_eq_true rfl), (Nat.le_of_ble_eq_true rfl)⟩ rfl ?_
  refine ct_J4_append_15ec4 N.H.hb N.L (show 16 < 54 by decide) (by first | omega | (simp only [List.length_append, List.length_cons, List.length_nil, byt_lens]; omega)) (fun u B H3 L3 F3 => ?_)
  show WF _ E Po _ _ _ _ _ _ _
  replace N := N.step H3 L3 F3
  clear H3 L3 F3
  refine r_aload_n (q := 79) dX9_line_78 rfl rfl rfl ?_
  refine r_getfield (q := 82) dX9_line_79 f_P9_line_147 (N.H.2.1.1.atG hg) (by rfl) rfl ?_
  rw [show (sbH h B).1 0 = h.1 0 from rfl, eb]
  refine r_callV (q := 85) (ci := 1) (As := [_]) dX9_line_82 s_P9_line_195 N.H.2.2.2.1 rfl rfl rfl (Nat.le_of_ble_eq_true rfl) rfl rfl rfl (Nat.le_of_ble_eq_true rfl) (Nat.le_of_ble_eq_true rfl) ⟨(Nat.le_of_ble_eq_true rfl), (Nat.le_of_ble_eq_true rfl)⟩ rfl ?_
  refine ct_J4_append_bf812 N.H.hb N.L hb (by first | omega | (simp only [List.length_append, List.length_cons, List.length_nil, byt_lens]; omega)) (fun u B H3 L3 F3 => ?_)
  show WF _ E Po _ _ _ _ _ _ _
  replace N := N.step H3 L3 F3
  clear H3 L3 F3
  refine r_pop (q := 86) dX9_line_85 rfl rfl ?_
  refine r_aload_n (q := 87) dX9_line_86 rfl rfl rfl ?_
  refine r_getfield (q := 90) dX9_line_87 f_P9_line_216 (N.H.2.1.1.atU hj) (by rfl) rfl ?_
  rw [show (sbH h B).1 0 = h.1 0 from rfl]
  refine r_if_le (q := 110) (q2 := 93) dX9_line_90 (by decide) rfl (fun h9 => absurd h9 hw0) (fun _ => ?_)
  refine r_aload_n (q := 94) dX9_line_93 rfl rfl rfl ?_
  refine r_getfield (q := 97) dX9_line_94 f_P9_line_39 N.H.1.1 rfl rfl ?_
  refine r_ldcS (i := 17) (q := 99) dX9_line_97 rfl rfl ?_
  refine r_callV (q := 102) (ci := 1) (As := [_]) dX9_line_99 s_P9_line_213 N.H.2.2.2.1 rfl rfl rfl (Nat.le_of_ble_eq_true rfl) rfl rfl rfl (Nat.le_of_ble_eq_true rfl) (Nat.le_of_ble_eq_true rfl) ⟨(Nat.le_of_ble_eq_true rfl), (Nat.le_of_ble_eq_true rfl)⟩ rfl ?_
  refine ct_J4_append_15ec4 N.H.hb N.L (show 17 < 54 by decide) (by first | omega | (simp only [List.length_append, List.length_cons, List.length_nil, byt_lens]; omega)) (fun u B H3 L3 F3 => ?_)
  show WF _ E Po _ _ _ _ _ _ _
  replace N := N.step H3 L3 F3
  clear H3 L3 F3
  refine r_aload_n (q := 103) dX9_line_102 rfl rfl rfl ?_
  refine r_getfield (q := 106) dX9_line_103 f_P9_line_216 (N.H.2.1.1.atU hj) (by rfl) rfl ?_
  rw [show (sbH h B).1 0 = h.1 0 from rfl, ea]
  refine r_callV (q := 109) (ci := 1) (As := [_]) dX9_line_106 s_P9_line_195 N.H.2.2.2.1 rfl rfl rfl (Nat.le_of_ble_eq_true rfl) rfl rfl rfl (Nat.le_of_ble_eq_true rfl) (Nat.le_of_ble_eq_true rfl) ⟨(Nat.le_of_ble_eq_true rfl), (Nat.le_of_ble_eq_true rfl)⟩ rfl ?_
  refine ct_J4_append_bf812 N.H.hb N.L ha (by first | omega | (simp only [List.length_append, List.length_cons, List.length_nil, byt_lens]; omega)) (fun u B H3 L3 F3 => ?_)
  show WF _ E Po _ _ _ _ _ _ _
  replace N := N.step H3 L3 F3
  clear H3 L3 F3
  refine r_pop (q := 110) dX9_line_109 rfl rfl ?_
  refine r_aload_n (q := 111) dX9_line_110 rfl rfl rfl ?_
  refine r_getfield (q := 114) dX9_line_111 f_P9_line_39 N.H.1.1 rfl rfl ?_
  refine r_callV (q := 117) (ci := 1) (As := []) dX9_line_114 s_P9_line_221 N.H.2.2.2.1 rfl rfl rfl (Nat.le_of_ble_eq_true rfl) rfl rfl rfl (Nat.le_of_ble_eq_true rfl) (Nat.le_of_ble_eq_true rfl) ⟨(Nat.le_of_ble_eq_true rfl), (Nat.le_of_ble_eq_true rfl)⟩ rfl ?_
  refine ct_J4_length_8abf5 N.H.hb ?_
  show WF _ E Po _ _ _ _ _ _ _
  refine r_iret dX9_line_117 rfl (Nat.le_of_ble_eq_true rfl) (Nat.le_of_ble_eq_true rfl) ?_
  have N2 : LN E w x h u B (lineC (h.1 0) j) := by
    unfold lineC
    rw [eg, if_pos hgo, nI_cl (by omega), eb, nI_cl (by omega)]
    rw [if_neg hw0, ea, nI_cl (by omega)]
    simpa only [List.append_assoc, List.nil_append] using N
  have e9 : B.2.2.2.1 = nI (lineC (h.1 0) j).length := N2.L.1
  show Po (.inl (some (.int B.2.2.2.1))) u
  rw [e9]
  exact hp u B N2
theorem ct_P9_line {E : xE} {Po : xPo} {w : xW} {x : Nat} {h : xHi} {z : Int32} {l0 : List Int32} (H : HI E w x h) (hL : hasL h.2.2.2.2 l0) (hD : inD (h.1 0)) (hp : if okU (h.1 0) z then ∀ u B, LN E w x h u B (lineC (h.1 0) z.toNatClampNeg) → Po (.inl (some (.int (nI (lineC (h.1 0) z.toNatClampNeg).length)))) u else ∀ u, HI E u x h → Fr w u x h → Po (.inr "java/lang/IndexOutOfBoundsException") u) : Ct M_P9_line E [.ref x, .int z] w Po := by
  by_cases ht : okU (h.1 0) z
  · rw [if_pos ht] at hp
    obtain ⟨j, hj, rfl⟩ := ht.ix
    rw [nI_cl (by omega)] at hp
    by_cases hgo : okG (h.1 0) ((h.1 0).2.2.1 j 2)
    · obtain ⟨g, hg, eg⟩ := hgo.ix
      obtain ⟨b, hb, eb⟩ := hD.2.2.2 g hg
      rw [eg] at hgo
      by_cases hw0 : (h.1 0).2.2.1 j 4 ≤ 0
      · exact ct_P9_line_2 H hL hD hj ht hg eg hgo hb eb hw0 hp
      · obtain ⟨a, ha, ea⟩ := hD.2.2.1 j hj
        exact ct_P9_line_3 H hL hD hj ht hg eg hgo hb eb hw0 ha ea hp
    · by_cases hw0 : (h.1 0).2.2.1 j 4 ≤ 0
      · exact ct_P9_line_0 H hL hD hj ht hgo hw0 hp
      · obtain ⟨a, ha, ea⟩ := hD.2.2.1 j hj
        exact ct_P9_line_1 H hL hD hj ht hgo hw0 ha ea hp
  · rw [if_neg ht] at hp
    exact ct_P9_line_out H hL hD ht hp
/-- TubHire.character(I)C -/
def M_P9_character : xM := (yX9_character, cX9_character, 2, (some FieldType.char), Cond.code yX9_character cX9_character 2 (some FieldType.char) :: xAll, { frames := 30, cells := 1, slots := 6, locals := 2000 }, (1, 6), [])
theorem f_P9_character_39 : xFld M_P9_character 39 11 5 true (tyX9 5) := ⟨RX9, TX9, 8, tyX9, rfl, by decide, fun w h => List.mem_cons_of_mem _ (inX9 w h), List.mem_cons_of_mem _ (lw6), tyX9_ok, nmX9, rfl, rfl, rfl⟩
theorem s_P9_character_221 : xSv M_P9_character M_J4_length_8abf5 221 0 := fun s args hts => ⟨callB_of 0 hts (xGood lw43) rfl rfl rfl (hts _ (List.mem_cons_of_mem _ (lw8))) (hts _ (List.mem_cons_of_mem _ (lw44))) (by decide +kernel) ⟨Nat.le_of_ble_eq_true rfl, Nat.le_of_ble_eq_true rfl⟩, (hts _ (List.mem_cons_of_mem _ (lw45))), (hts _ (List.mem_cons_of_mem _ (lw46)))⟩
theorem lw47 : (Jvm.Cond.code ({ cls := "java/lang/StringBuilder", name := "charAt", desc := "(I)C" } : Jvm.MethodName) prog_31_method_88_code (2 : Nat) (Option.some Jvm.ClassFile.FieldType.char)) ∈ xAll := xin5 (List.mem_of_getElem? (i := 217) (by decide +kernel)) (by decide +kernel)
theorem lw48 : (Jvm.Cond.methodLink "TubHire" (226 : Nat) ({ cls := "java/lang/StringBuilder", name := "charAt", desc := "(I)C" } : Jvm.MethodName)) ∈ xAll := xin5 (List.mem_of_getElem? (i := 214) (by decide +kernel)) (by decide +kernel)
theorem lw49 : (Jvm.Cond.instanceMethod ({ cls := "java/lang/StringBuilder", name := "charAt", desc := "(I)C" } : Jvm.MethodName)) ∈ xAll := xin5 (List.mem_of_getElem? (i := 215) (by decide +kernel)) (by decide +kernel)
theorem lw50 : (Jvm.Cond.selects "java/lang/StringBuilder" ({ cls := "java/lang/StringBuilder", name := "charAt", desc := "(I)C" } : Jvm.MethodName) ({ cls := "java/lang/StringBuilder", name := "charAt", desc := "(I)C" } : Jvm.MethodName)) ∈ xAll := xin5 (List.mem_of_getElem? (i := 216) (by decide +kernel)) (by decide +kernel)
theorem s_P9_character_226 : xSv M_P9_character M_J4_charAt_5068e 226 1 := fun s args hts => ⟨callB_of 1 hts (xGood lw47) rfl rfl rfl (hts _ (List.mem_cons_of_mem _ (lw8))) (hts _ (List.mem_cons_of_mem _ (lw48))) (by decide +kernel) ⟨Nat.le_of_ble_eq_true rfl, Nat.le_of_ble_eq_true rfl⟩, (hts _ (List.mem_cons_of_mem _ (lw49))), (hts _ (List.mem_cons_of_mem _ (lw50)))⟩
set_option maxRecDepth 100000 in
set_option maxHeartbeats 4000000 in
theorem ct_P9_character {E : xE} {Po : xPo} {w : xW} {x : Nat} {h : xHi} {z : Int32} {l : List Int32} (H : HI E w x h) (hL : hasL h.2.2.2.2 l) (hp : if z < 0 ∨ ¬ z < nI l.length then ∀ u, HI E u x h → Fr w u x h → Po (.inr "java/lang/IndexOutOfBoundsException") u else Po (.inl (some (.int (l.getD z.toNatClampNeg 0)))) w) : Ct M_P9_character E [.ref x, .int z] w Po := by
  refine Ct.of (ws2 := xAll) (L := [some (.ref x), some (.int z)]) (by decide +kernel) rfl rfl (List.forall_mem_cons.mpr ⟨rfl, List.forall_mem_cons.mpr ⟨rfl, fun _ h => absurd h List.not_mem_nil⟩⟩) (Nat.le_of_ble_eq_true rfl) rfl ?_
  refine r_iload_n (q := 1) dX9_character_0 rfl rfl rfl ?_
  refine r_if_lt (q := 15) (q2 := 4) dX9_character_1 (by decide) rfl (fun h1 => ?_) (fun h1 => ?_)
  · rw [if_pos (Or.inl h1)] at hp
    exact r_throwS (i := 18) (by decide +kernel) th_nm (by decide) (fun _ h => List.mem_cons_of_mem _ h) th_IO tk_IO ti_IO rfl dX9_character_15 dX9_character_18 dX9_character_19 dX9_character_21 dX9_character_24 rfl (Nat.le_of_ble_eq_true rfl) (Nat.le_of_ble_eq_true rfl) (Nat.le_of_ble_eq_true rfl) (Nat.le_of_ble_eq_true rfl) (Nat.le_of_ble_eq_true rfl) (Nat.le_of_ble_eq_true rfl) (fun z hz => hp _ (H.sz hz) (Fr.id.sz hz))
  · refine r_iload_n (q := 5) dX9_character_4 rfl rfl rfl ?_
    refine r_aload_n (q := 6) dX9_character_5 rfl rfl rfl ?_
    refine r_getfield (q := 9) dX9_character_6 f_P9_character_39 H.1.1 rfl rfl ?_
    refine r_callV (q := 12) (ci := 1) (As := []) dX9_character_9 s_P9_character_221 H.2.2.2.1 rfl rfl rfl (Nat.le_of_ble_eq_true rfl) rfl rfl rfl (Nat.le_of_ble_eq_true rfl) (Nat.le_of_ble_eq_true rfl) ⟨(Nat.le_of_ble_eq_true rfl), (Nat.le_of_ble_eq_true rfl)⟩ rfl ?_
    refine ct_J4_length_8abf5 H.hb ?_
    show WF _ E Po _ _ _ _ _ _ _
    rw [show h.2.2.2.2.2.2.2.1 = nI l.length from hL.1]
    refine r_icmp_lt (q := 25) (q2 := 15) dX9_character_12 (by decide) rfl (fun h12 => ?_) (fun h12 => ?_)
    · have hl5 : l.length ≤ 125 := Nat.le_trans hL.2.1 hL.2.2.1.2
      obtain ⟨j, hj, rfl⟩ := ixOf (n := l.length) (by omega) h1 (Int32.not_le.mpr h12)
      rw [if_neg (fun q => q.elim h1 (fun z => z h12)), nI_cl (by omega)] at hp
      refine r_aload_n (q := 26) dX9_character_25 rfl rfl rfl ?_
      refine r_getfield (q := 29) dX9_character_26 f_P9_character_39 H.1.1 rfl rfl ?_
      refine r_iload_n (q := 30) dX9_character_29 rfl rfl rfl ?_
      refine r_callV (q := 33) (ci := 1) (As := [_]) dX9_character_30 s_P9_character_226 H.2.2.2.1 rfl rfl rfl (Nat.le_of_ble_eq_true rfl) rfl rfl rfl (Nat.le_of_ble_eq_true rfl) (Nat.le_of_ble_eq_true rfl) ⟨(Nat.le_of_ble_eq_true rfl), (Nat.le_of_ble_eq_true rfl)⟩ rfl ?_
      refine ct_J4_charAt_5068e H.hb hL hj ?_
      show WF _ E Po _ _ _ _ _ _ _
      refine r_zret dX9_character_33 rfl (by
    rw [List.getD_eq_getElem?_getD, List.getElem?_eq_getElem hj, Option.getD_some]
    exact (hL.2.2.2.2.1 _ (List.getElem_mem hj)).2.1) (Nat.le_of_ble_eq_true rfl) (Nat.le_of_ble_eq_true rfl) ?_
      exact hp
    · rw [if_pos (Or.inr h12)] at hp
      exact r_throwS (i := 18) (by decide +kernel) th_nm (by decide) (fun _ h => List.mem_cons_of_mem _ h) th_IO tk_IO ti_IO rfl dX9_character_15 dX9_character_18 dX9_character_19 dX9_character_21 dX9_character_24 rfl (Nat.le_of_ble_eq_true rfl) (Nat.le_of_ble_eq_true rfl) (Nat.le_of_ble_eq_true rfl) (Nat.le_of_ble_eq_true rfl) (Nat.le_of_ble_eq_true rfl) (Nat.le_of_ble_eq_true rfl) (fun z hz => hp _ (H.sz hz) (Fr.id.sz hz))
