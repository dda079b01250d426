/-! ===== 42.mtext: texts in the reference (rows laid by wip/whole/gen/make42.py) ===== -/
/-- place, isWrong and commandMany in the object -/
def oT (o : Nat → Int32) (p : Nat) (wr : Int32) (k : Nat) : Nat → Int32 := fun i => if i = 8 then nI p else if i = 9 then wr else if i = 11 then nI k else o i
section OT
variable {o : Nat → Int32} {p p2 k k2 : Nat} {wr w2 : Int32}
theorem oT_8 : upd (oT o p wr k) 8 (nI p2) = oT o p2 wr k := by
  funext i
  by_cases e : i = 8
  · subst e; exact upd_s
  · rw [upd_o e]; unfold oT; rw [if_neg e, if_neg e]
theorem oT_9 : upd (oT o p wr k) 9 w2 = oT o p w2 k := by
  funext i
  by_cases e : i = 9
  · subst e; exact upd_s
  · rw [upd_o e]; unfold oT; rw [if_neg e, if_neg e]
theorem oT_11 : upd (oT o p wr k) 11 (nI k2) = oT o p wr k2 := by
  funext i
  by_cases e : i = 11
  · subst e; exact upd_s
  · rw [upd_o e]; unfold oT; rw [if_neg e, if_neg e]
theorem oT_i : upd (upd (upd o 8 0) 9 0) 11 0 = oT o 0 0 0 := by
  funext i
  by_cases e : i = 11
  · subst e; exact upd_s
  · rw [upd_o e]
    by_cases e2 : i = 9
    · subst e2; exact upd_s
    · rw [upd_o e2]
      by_cases e3 : i = 8
      · subst e3; exact upd_s
      · rw [upd_o e3]; unfold oT; rw [if_neg e3, if_neg e2, if_neg e]
end OT
abbrev hereS (f : Nat → Int32) (n p : Nat) (a b : Int32) : Prop := p < n ∧ ¬ (f p < a ∨ b < f p)
def sgM (f : Nat → Int32) (n : Nat) (a b : Int32) (p : Nat) (wr : Int32) : Int32 × Nat × Int32 := if wr = 0 ∧ hereS f n p a b then (f p - a, p + 1, 0) else (0, p, 1)
def fgM (f : Nat → Int32) (n p : Nat) (wr : Int32) : Int32 × Nat × Int32 := if (sgM f n 48 57 p wr).2.2 = 0 ∧ hereS f n (sgM f n 48 57 p wr).2.1 48 57 then (10 * (sgM f n 48 57 p wr).1 + (sgM f n 48 57 (sgM f n 48 57 p wr).2.1 (sgM f n 48 57 p wr).2.2).1, (sgM f n 48 57 (sgM f n 48 57 p wr).2.1 (sgM f n 48 57 p wr).2.2).2) else sgM f n 48 57 p wr
theorem sgM_p {f : Nat → Int32} {n : Nat} {a b : Int32} {p : Nat} {wr : Int32} : p ≤ (sgM f n a b p wr).2.1 ∧ (sgM f n a b p wr).2.1 ≤ p + 1 := by
  unfold sgM
  split
  · exact ⟨Nat.le_succ _, Nat.le_refl _⟩
  · exact ⟨Nat.le_refl _, Nat.le_succ _⟩
theorem fgM_p {f : Nat → Int32} {n p : Nat} {wr : Int32} : p ≤ (fgM f n p wr).2.1 ∧ (fgM f n p wr).2.1 ≤ p + 2 := by
  have h1 := sgM_p (f := f) (n := n) (a := 48) (b := 57) (p := p) (wr := wr)
  unfold fgM
  split
  · have h2 := sgM_p (f := f) (n := n) (a := 48) (b := 57) (p := (sgM f n 48 57 p wr).2.1) (wr := (sgM f n 48 57 p wr).2.2)
    exact ⟨by show p ≤ (sgM f n 48 57 (sgM f n 48 57 p wr).2.1 (sgM f n 48 57 p wr).2.2).2.1; omega, by show (sgM f n 48 57 (sgM f n 48 57 p wr).2.1 (sgM f n 48 57 p wr).2.2).2.1 ≤ _; omega⟩
  · omega
/-- the words of commands looked for: how far one fits, which fits whole -/
def rkF (F : Nat → Nat) : Nat → Nat → Nat → Option Nat → Nat × Option Nat
  | 0, _, l, v => (l, v)
  | z + 1, i, l, v => rkF F z (i + 1) (if l < F i then F i else l) (if F i = xLen.getD (28 + i) 0 then some i else v)
def rkS (f : Nat → Int32) (n p : Nat) : Nat × Option Nat := rkF (fun i => fiS f (nI n) (nI p) (28 + i)) 9 0 0 none
abbrev mSt : Type := Nat × Int32 × Nat × (Nat → Int32)
def rc3M (f : Nat → Int32) (n c k : Nat) (com : Nat → Int32) (x : Int32 × Nat × Int32) : mSt := if c = 0 ∨ c = 2 ∨ c = 5 then ((sgM f n 48 57 (sgM f n 32 32 x.2.1 x.2.2).2.1 (sgM f n 32 32 x.2.1 x.2.2).2.2).2.1, (sgM f n 48 57 (sgM f n 32 32 x.2.1 x.2.2).2.1 (sgM f n 32 32 x.2.1 x.2.2).2.2).2.2, k + 1, upd (upd (upd com (3 * k) (nI c)) (3 * k + 1) x.1) (3 * k + 2) (sgM f n 48 57 (sgM f n 32 32 x.2.1 x.2.2).2.1 (sgM f n 32 32 x.2.1 x.2.2).2.2).1) else (x.2.1, x.2.2, k + 1, upd (upd com (3 * k) (nI c)) (3 * k + 1) x.1)
def rc2M (f : Nat → Int32) (n c p k : Nat) (com : Nat → Int32) : mSt := if c ≤ 5 then rc3M f n c k com (sgM f n 48 57 p 0) else rc3M f n c k com (fgM f n p 0)
def rcM (f : Nat → Int32) (n p k : Nat) (com : Nat → Int32) : mSt := match (rkS f n p).2 with
  | none => (p + (rkS f n p).1, 1, k, com)
  | some c => rc2M f n c (p + (rkS f n p).1) k com
theorem fiS_le {f : Nat → Int32} {n a : Int32} {i : Nat} : fiS f n a i ≤ xLen.getD i 0 := by
  have := fiF_le (g := fun j => sgS f n (a + nI j)) (b := fun j => (xByt.getD i []).getD j 0) (xLen.getD i 0) 0
  unfold fiS
  omega
theorem wl_ok : ∀ i, i < 9 → 4 ≤ xLen.getD (28 + i) 0 ∧ xLen.getD (28 + i) 0 ≤ 6 := by decide
theorem rkF_ok {F : Nat → Nat} (hF : ∀ i, i < 9 → F i ≤ 6) : ∀ (z i l : Nat) (v : Option Nat), i + z ≤ 9 → l ≤ 6 → (∀ c, v = some c → c < 9 ∧ 4 ≤ l) → (rkF F z i l v).1 ≤ 6 ∧ ∀ c, (rkF F z i l v).2 = some c → c < 9 ∧ 4 ≤ (rkF F z i l v).1
  | 0, _, _, _, _, hl, hv => ⟨hl, hv⟩
  | z + 1, i, l, v, hz, hl, hv => by
    have h6 := hF i (by omega)
    have w := wl_ok i (by omega)
    unfold rkF
    refine rkF_ok hF z (i + 1) _ _ (by omega) (by split <;> omega) (fun c hc => ?_)
    by_cases e : F i = xLen.getD (28 + i) 0
    · rw [if_pos e] at hc
      cases hc
      exact ⟨by omega, by split <;> omega⟩
    · rw [if_neg e] at hc
      obtain ⟨h1, h2⟩ := hv c hc
      exact ⟨h1, by split <;> omega⟩
theorem rkS_ok {f : Nat → Int32} {n p : Nat} : (rkS f n p).1 ≤ 6 ∧ ∀ c, (rkS f n p).2 = some c → c < 9 ∧ 4 ≤ (rkS f n p).1 :=
  rkF_ok (fun i hi => Nat.le_trans fiS_le (wl_ok i hi).2) 9 0 0 none (by decide) (by decide) (fun c hc => by cases hc)
theorem rc3M_ok {f : Nat → Int32} {n c k : Nat} {com : Nat → Int32} {x : Int32 × Nat × Int32} : x.2.1 ≤ (rc3M f n c k com x).1 ∧ (rc3M f n c k com x).1 ≤ x.2.1 + 2 ∧ (rc3M f n c k com x).2.2.1 = k + 1 := by
  have h1 := sgM_p (f := f) (n := n) (a := 32) (b := 32) (p := x.2.1) (wr := x.2.2)
  have h2 := sgM_p (f := f) (n := n) (a := 48) (b := 57) (p := (sgM f n 32 32 x.2.1 x.2.2).2.1) (wr := (sgM f n 32 32 x.2.1 x.2.2).2.2)
  unfold rc3M
  split
  · exact ⟨by show x.2.1 ≤ (sgM f n 48 57 (sgM f n 32 32 x.2.1 x.2.2).2.1 (sgM f n 32 32 x.2.1 x.2.2).2.2).2.1; omega, by show (sgM f n 48 57 (sgM f n 32 32 x.2.1 x.2.2).2.1 (sgM f n 32 32 x.2.1 x.2.2).2.2).2.1 ≤ _; omega, rfl⟩
  · exact ⟨Nat.le_refl _, Nat.le_add_right _ _, rfl⟩
/-- a command read: it goes on by 4 signs at least if a word was there -/
theorem rcM_ok {f : Nat → Int32} {n p k : Nat} {com : Nat → Int32} : p ≤ (rcM f n p k com).1 ∧ (rcM f n p k com).1 ≤ p + 12 ∧ ((rcM f n p k com).2.2.1 = k ∨ ((rcM f n p k com).2.2.1 = k + 1 ∧ p + 4 ≤ (rcM f n p k com).1)) := by
  obtain ⟨h1, h2⟩ := rkS_ok (f := f) (n := n) (p := p)
  unfold rcM
  split
  · exact ⟨by show p ≤ p + _; omega, by show p + _ ≤ _; omega, Or.inl rfl⟩
  · rename_i c hc
    obtain ⟨h3, h4⟩ := h2 c hc
    unfold rc2M
    split
    · have a1 := sgM_p (f := f) (n := n) (a := 48) (b := 57) (p := p + (rkS f n p).1) (wr := 0)
      obtain ⟨b1, b2, b3⟩ := rc3M_ok (f := f) (n := n) (c := c) (k := k) (com := com) (x := sgM f n 48 57 (p + (rkS f n p).1) 0)
      exact ⟨by omega, by omega, Or.inr ⟨b3, by omega⟩⟩
    · have a1 := fgM_p (f := f) (n := n) (p := p + (rkS f n p).1) (wr := 0)
      obtain ⟨b1, b2, b3⟩ := rc3M_ok (f := f) (n := n) (c := c) (k := k) (com := com) (x := fgM f n (p + (rkS f n p).1) 0)
      exact ⟨by omega, by omega, Or.inr ⟨b3, by omega⟩⟩
def rdM (f : Nat → Int32) (n : Nat) : Nat → mSt → mSt
  | 0, s => s
  | z + 1, s => if s.2.1 = 0 ∧ hereS f n s.1 59 59 then rdM f n z (rcM f n (s.1 + 1) s.2.2.1 s.2.2.2) else s
set_option maxRecDepth 100000 in
set_option maxHeartbeats 4000000 in
theorem ct_X10_isHere {E : xE} {Po : xPo} {w : xW} {m : Nat} {d : xCo} {r : mRs} {o : Nat → Int32} {t : mTx} {p n k : Nat} {wr : Int32} {a b : Int32} (hn : n ≤ 60) (hp6 : p < 1000) (h7 : o 7 = nI n) (hp : if wr = 0 ∧ hereS t.2.1 n p a b then Po (.inl (some (.int 1))) (md E w m d r (oT o p wr k) t) else Po (.inl (some (.int 0))) (md E w m d r (oT o p wr k) t)) : Ct M_X10_isHere E [.ref m, .int a, .int b] (md E w m d r (oT o p wr k) t) Po := by
  refine Ct.of (ws2 := xAll) (L := [some (.ref m), some (.int a), some (.int b)]) (by decide +kernel) rfl rfl (List.forall_mem_cons.mpr ⟨rfl, List.forall_mem_cons.mpr ⟨rfl, List.forall_mem_cons.mpr ⟨rfl, fun _ h => absurd h List.not_mem_nil⟩⟩⟩) (Nat.le_of_ble_eq_true rfl) rfl ?_
  refine r_aload_n (q := 1) dX10_isHere_0 rfl rfl rfl ?_
  refine r_getfield (q := 4) dX10_isHere_1 f_X10_isHere_246 md_g0 rfl rfl ?_
  rw [show oT o p wr k 9 = wr from rfl]
  refine r_if_ne (q := 39) (q2 := 7) dX10_isHere_4 (by decide) rfl (fun h4 => ?_) (fun h4 => ?_)
  · rw [if_neg (fun q => h4 q.1)] at hp
    refine r_iconst (q := 40) (v := 0) dX10_isHere_39 rfl rfl ?_
    refine r_zret dX10_isHere_40 rfl (by decide) (Nat.le_of_ble_eq_true rfl) (Nat.le_of_ble_eq_true rfl) ?_
    exact hp
  · refine r_aload_n (q := 8) dX10_isHere_7 rfl rfl rfl ?_
    refine r_getfield (q := 11) dX10_isHere_8 f_X10_isHere_249 md_g0 rfl rfl ?_
    rw [show oT o p wr k 8 = nI p from rfl]
    refine r_aload_n (q := 12) dX10_isHere_11 rfl rfl rfl ?_
    refine r_getfield (q := 15) dX10_isHere_12 f_X10_isHere_244 md_g0 rfl rfl ?_
    rw [show oT o p wr k 7 = nI n from h7]
    refine r_icmp_ge (q := 39) (q2 := 18) dX10_isHere_15 (by decide) rfl (fun h15 => ?_) (fun h15 => ?_)
    · have hpn : ¬ p < n := by have := (nI_leI (by omega) (by omega)).mp h15; omega
      rw [if_neg (fun q => hpn q.2.1)] at hp
      refine r_iconst (q := 40) (v := 0) dX10_isHere_39 rfl rfl ?_
      refine r_zret dX10_isHere_40 rfl (by decide) (Nat.le_of_ble_eq_true rfl) (Nat.le_of_ble_eq_true rfl) ?_
      exact hp
    · have hpn : p < n := by
        have : ¬ n ≤ p := fun q => h15 ((nI_leI (by omega) (by omega)).mpr q)
        omega
      refine r_aload_n (q := 19) dX10_isHere_18 rfl rfl rfl ?_
      refine r_getfield (q := 22) dX10_isHere_19 f_X10_isHere_53 md_g0 rfl rfl ?_
      refine r_aload_n (q := 23) dX10_isHere_22 rfl rfl rfl ?_
      refine r_getfield (q := 26) dX10_isHere_23 f_X10_isHere_249 md_g0 rfl rfl ?_
      rw [show oT o p wr k 8 = nI p from rfl]
      refine r_caload (q := 27) dX10_isHere_26 md_g8 (vp_in_nI (by omega) (by decide)) rfl ?_
      rw [nI_cl (by omega)]
      refine r_iload_n (q := 28) dX10_isHere_27 rfl rfl rfl ?_
      refine r_iload_n (q := 29) dX10_isHere_28 rfl rfl rfl ?_
      refine r_callS (q := 32) (As := [_, _, _]) dX10_isHere_29 s_X10_isHere_85 rfl rfl (Nat.le_of_ble_eq_true rfl) rfl rfl rfl (Nat.le_of_ble_eq_true rfl) (Nat.le_of_ble_eq_true rfl) ⟨(Nat.le_of_ble_eq_true rfl), (Nat.le_of_ble_eq_true rfl)⟩ rfl ?_
      refine ct_X10_in (fun hi => ?_) (fun hi => ?_)
      · show WF _ E Po _ _ _ _ _ _ _
        rw [if_pos ⟨h4, hpn, hi⟩] at hp
        refine r_if_eq (q := 39) (q2 := 35) dX10_isHere_32 (by decide) rfl (fun h9 => absurd h9 (by decide)) (fun _ => ?_)
        refine r_iconst (q := 36) (v := 1) dX10_isHere_35 rfl rfl ?_
        refine r_goto (q := 40) dX10_isHere_36 (by decide) ?_
        refine r_zret dX10_isHere_40 rfl (by decide) (Nat.le_of_ble_eq_true rfl) (Nat.le_of_ble_eq_true rfl) ?_
        exact hp
      · show WF _ E Po _ _ _ _ _ _ _
        rw [if_neg (fun q => q.2.2 hi)] at hp
        refine r_if_eq (q := 39) (q2 := 35) dX10_isHere_32 (by decide) rfl (fun _ => ?_) (fun h9 => absurd rfl h9)
        refine r_iconst (q := 40) (v := 0) dX10_isHere_39 rfl rfl ?_
        refine r_zret dX10_isHere_40 rfl (by decide) (Nat.le_of_ble_eq_true rfl) (Nat.le_of_ble_eq_true rfl) ?_
        exact hp
set_option maxRecDepth 100000 in
set_option maxHeartbeats 4000000 in
theorem ct_X10_sign {E : xE} {Po : xPo} {w : xW} {m : Nat} {d : xCo} {r : mRs} {o : Nat → Int32} {t : mTx} {p n k : Nat} {wr : Int32} {a b : Int32} (hn : n ≤ 60) (hp6 : p < 500) (h7 : o 7 = nI n) (hp : Po (.inl (some (.int (sgM t.2.1 n a b p wr).1))) (md E w m d r (oT o (sgM t.2.1 n a b p wr).2.1 (sgM t.2.1 n a b p wr).2.2 k) t)) : Ct M_X10_sign E [.ref m, .int a, .int b] (md E w m d r (oT o p wr k) t) Po := by
  refine Ct.of (ws2 := xAll) (L := [some (.ref m), some (.int a), some (.int b)]) (by decide +kernel) rfl rfl (List.forall_mem_cons.mpr ⟨rfl, List.forall_mem_cons.mpr ⟨rfl, List.forall_mem_cons.mpr ⟨rfl, fun _ h => absurd h List.not_mem_nil⟩⟩⟩) (Nat.le_of_ble_eq_true rfl) rfl ?_
  unfold sgM at hp
  refine r_aload_n (q := 1) dX10_sign_0 rfl rfl rfl ?_
  refine r_aload_n (q := 2) dX10_sign_1 rfl rfl rfl ?_
  refine r_iload_n (q := 3) dX10_sign_2 rfl rfl rfl ?_
  refine r_iload_n (q := 4) dX10_sign_3 rfl rfl rfl ?_
  refine r_callV (q := 7) (ci := 12) (As := [_, _]) dX10_sign_4 s_X10_sign_252 md_g0 rfl rfl rfl (Nat.le_of_ble_eq_true rfl) rfl rfl rfl (Nat.le_of_ble_eq_true rfl) (Nat.le_of_ble_eq_true rfl) ⟨(Nat.le_of_ble_eq_true rfl), (Nat.le_of_ble_eq_true rfl)⟩ rfl ?_
  refine ct_X10_isHere (n := n) hn (by omega) h7 ?_
  rcases Classical.em (wr = 0 ∧ hereS t.2.1 n p a b) with e | e
  · rw [if_pos e]
    show WF _ E Po _ _ _ _ _ _ _
    rw [if_pos e] at hp
    refine r_if_ne (q := 14) (q2 := 10) dX10_sign_7 (by decide) rfl (fun _ => ?_) (fun h9 => absurd h9 (by decide))
    refine r_iconst (q := 15) (v := 0) dX10_sign_14 rfl rfl ?_
    refine r_putfield (q := 18) dX10_sign_15 f_X10_sign_246 md_g0 rfl rfl (by exact Nat.le_of_ble_eq_true rfl) rfl ?_
    refine WF.cw (md_po (i := 9)) ?_
    rw [oT_9]
    refine r_aload_n (q := 19) dX10_sign_18 rfl rfl rfl ?_
    refine r_getfield (q := 22) dX10_sign_19 f_X10_sign_246 md_g0 rfl rfl ?_
    refine r_if_eq (q := 27) (q2 := 25) dX10_sign_22 (by decide) rfl (fun _ => ?_) (fun h9 => absurd rfl h9)
    refine r_aload_n (q := 28) dX10_sign_27 rfl rfl rfl ?_
    refine r_dup (q := 29) dX10_sign_28 rfl rfl ?_
    refine r_getfield (q := 32) dX10_sign_29 f_X10_sign_249 md_g0 rfl rfl ?_
    refine r_iconst (q := 33) (v := 1) dX10_sign_32 rfl rfl ?_
    refine r_iadd (q := 34) dX10_sign_33 rfl ?_
    refine r_putfield (q := 37) dX10_sign_34 f_X10_sign_249 md_g0 rfl rfl (by exact Nat.le_of_ble_eq_true rfl) rfl ?_
    refine WF.cw (md_po (i := 8) (o := oT o p 0 k) (v := oT o p 0 k 8 + 1)) ?_
    rw [show oT o p 0 k 8 + 1 = nI (p + 1) from nI_1 p, oT_8]
    refine r_aload_n (q := 38) dX10_sign_37 rfl rfl rfl ?_
    refine r_getfield (q := 41) dX10_sign_38 f_X10_sign_53 md_g0 rfl rfl ?_
    refine r_aload_n (q := 42) dX10_sign_41 rfl rfl rfl ?_
    refine r_getfield (q := 45) dX10_sign_42 f_X10_sign_249 md_g0 rfl rfl ?_
    refine r_iconst (q := 46) (v := 1) dX10_sign_45 rfl rfl ?_
    refine r_isub (q := 47) dX10_sign_46 rfl ?_
    rw [show oT o (p + 1) 0 k 8 - 1 = nI p from nI_pred p]
    refine r_caload (q := 48) dX10_sign_47 md_g8 (vp_in_nI (by have := e.2.1; omega) (by decide)) rfl ?_
    rw [nI_cl (by omega)]
    refine r_iload_n (q := 49) dX10_sign_48 rfl rfl rfl ?_
    refine r_isub (q := 50) dX10_sign_49 rfl ?_
    refine r_iret dX10_sign_50 rfl (Nat.le_of_ble_eq_true rfl) (Nat.le_of_ble_eq_true rfl) ?_
    exact hp
  · rw [if_neg e]
    show WF _ E Po _ _ _ _ _ _ _
    rw [if_neg e] at hp
    refine r_if_ne (q := 14) (q2 := 10) dX10_sign_7 (by decide) rfl (fun h9 => absurd rfl h9) (fun _ => ?_)
    refine r_iconst (q := 11) (v := 1) dX10_sign_10 rfl rfl ?_
    refine r_goto (q := 15) dX10_sign_11 (by decide) ?_
    refine r_putfield (q := 18) dX10_sign_15 f_X10_sign_246 md_g0 rfl rfl (by exact Nat.le_of_ble_eq_true rfl) rfl ?_
    refine WF.cw (md_po (i := 9)) ?_
    rw [oT_9]
    refine r_aload_n (q := 19) dX10_sign_18 rfl rfl rfl ?_
    refine r_getfield (q := 22) dX10_sign_19 f_X10_sign_246 md_g0 rfl rfl ?_
    refine r_if_eq (q := 27) (q2 := 25) dX10_sign_22 (by decide) rfl (fun h9 => absurd h9 (show ¬ (1 : Int32) = 0 by decide)) (fun _ => ?_)
    refine r_iconst (q := 26) (v := 0) dX10_sign_25 rfl rfl ?_
    refine r_iret dX10_sign_26 rfl (Nat.le_of_ble_eq_true rfl) (Nat.le_of_ble_eq_true rfl) ?_
    exact hp
set_option maxRecDepth 100000 in
set_option maxHeartbeats 4000000 in
theorem ct_X10_digit {E : xE} {Po : xPo} {w : xW} {m : Nat} {d : xCo} {r : mRs} {o : Nat → Int32} {t : mTx} {p n k : Nat} {wr : Int32} (hn : n ≤ 60) (hp6 : p < 500) (h7 : o 7 = nI n) (hp : Po (.inl (some (.int (sgM t.2.1 n 48 57 p wr).1))) (md E w m d r (oT o (sgM t.2.1 n 48 57 p wr).2.1 (sgM t.2.1 n 48 57 p wr).2.2 k) t)) : Ct M_X10_digit E [.ref m] (md E w m d r (oT o p wr k) t) Po := by
  refine Ct.of (ws2 := xAll) (L := [some (.ref m)]) (by decide +kernel) rfl rfl (List.forall_mem_cons.mpr ⟨rfl, fun _ h => absurd h List.not_mem_nil⟩) (Nat.le_of_ble_eq_true rfl) rfl ?_
  refine r_aload_n (q := 1) dX10_digit_0 rfl rfl rfl ?_
  refine r_bipush (q := 3) (v := 48) dX10_digit_1 (by decide) rfl ?_
  refine r_bipush (q := 5) (v := 57) dX10_digit_3 (by decide) rfl ?_
  refine r_callV (q := 8) (ci := 12) (As := [_, _]) dX10_digit_5 s_X10_digit_256 md_g0 rfl rfl rfl (Nat.le_of_ble_eq_true rfl) rfl rfl rfl (Nat.le_of_ble_eq_true rfl) (Nat.le_of_ble_eq_true rfl) ⟨(Nat.le_of_ble_eq_true rfl), (Nat.le_of_ble_eq_true rfl)⟩ rfl ?_
  refine ct_X10_sign hn hp6 h7 ?_
  show WF _ E Po _ _ _ _ _ _ _
  refine r_iret dX10_digit_8 rfl (Nat.le_of_ble_eq_true rfl) (Nat.le_of_ble_eq_true rfl) ?_
  exact hp
set_option maxRecDepth 100000 in
set_option maxHeartbeats 4000000 in
theorem ct_X10_figures {E : xE} {Po : xPo} {w : xW} {m : Nat} {d : xCo} {r : mRs} {o : Nat → Int32} {t : mTx} {p n k : Nat} {wr : Int32} (hn : n ≤ 60) (hp6 : p < 400) (h7 : o 7 = nI n) (hp : Po (.inl (some (.int (fgM t.2.1 n p wr).1))) (md E w m d r (oT o (fgM t.2.1 n p wr).2.1 (fgM t.2.1 n p wr).2.2 k) t)) : Ct M_X10_figures E [.ref m] (md E w m d r (oT o p wr k) t) Po := by
  refine Ct.of (ws2 := xAll) (L := [some (.ref m), none]) (by decide +kernel) rfl rfl (List.forall_mem_cons.mpr ⟨rfl, fun _ h => absurd h List.not_mem_nil⟩) (Nat.le_of_ble_eq_true rfl) rfl ?_
  unfold fgM at hp
  have hq := sgM_p (f := t.2.1) (n := n) (a := 48) (b := 57) (p := p) (wr := wr)
  refine r_aload_n (q := 1) dX10_figures_0 rfl rfl rfl ?_
  refine r_callV (q := 4) (ci := 12) (As := []) dX10_figures_1 s_X10_figures_260 md_g0 rfl rfl rfl (Nat.le_of_ble_eq_true rfl) rfl rfl rfl (Nat.le_of_ble_eq_true rfl) (Nat.le_of_ble_eq_true rfl) ⟨(Nat.le_of_ble_eq_true rfl), (Nat.le_of_ble_eq_true rfl)⟩ rfl ?_
  refine ct_X10_digit hn (by omega) h7 ?_
  show WF _ E Po _ _ _ _ _ _ _
  refine r_istore_n (q := 5) dX10_figures_4 rfl (Nat.le_of_ble_eq_true rfl) (xone_of rfl) rfl ?_
  refine r_aload_n (q := 6) dX10_figures_5 rfl rfl rfl ?_
  refine r_bipush (q := 8) (v := 48) dX10_figures_6 (by decide) rfl ?_
  refine r_bipush (q := 10) (v := 57) dX10_figures_8 (by decide) rfl ?_
  refine r_callV (q := 13) (ci := 12) (As := [_, _]) dX10_figures_10 s_X10_figures_252 md_g0 rfl rfl rfl (Nat.le_of_ble_eq_true rfl) rfl rfl rfl (Nat.le_of_ble_eq_true rfl) (Nat.le_of_ble_eq_true rfl) ⟨(Nat.le_of_ble_eq_true rfl), (Nat.le_of_ble_eq_true rfl)⟩ rfl ?_
  refine ct_X10_isHere (n := n) hn (by omega) h7 ?_
  rcases Classical.em ((sgM t.2.1 n 48 57 p wr).2.2 = 0 ∧ hereS t.2.1 n (sgM t.2.1 n 48 57 p wr).2.1 48 57) with e | e
  · rw [if_pos e]
    show WF _ E Po _ _ _ _ _ _ _
    rw [if_pos e] at hp
    refine r_if_eq (q := 28) (q2 := 16) dX10_figures_13 (by decide) rfl (fun h9 => absurd h9 (by decide)) (fun _ => ?_)
    refine r_bipush (q := 18) (v := 10) dX10_figures_16 (by decide) rfl ?_
    refine r_iload_n (q := 19) dX10_figures_18 rfl rfl rfl ?_
    refine r_imul (q := 20) dX10_figures_19 rfl ?_
    refine r_aload_n (q := 21) dX10_figures_20 rfl rfl rfl ?_
    refine r_callV (q := 24) (ci := 12) (As := []) dX10_figures_21 s_X10_figures_260 md_g0 rfl rfl rfl (Nat.le_of_ble_eq_true rfl) rfl rfl rfl (Nat.le_of_ble_eq_true rfl) (Nat.le_of_ble_eq_true rfl) ⟨(Nat.le_of_ble_eq_true rfl), (Nat.le_of_ble_eq_true rfl)⟩ rfl ?_
    refine ct_X10_digit hn (by omega) h7 ?_
    show WF _ E Po _ _ _ _ _ _ _
    refine r_iadd (q := 25) dX10_figures_24 rfl ?_
    refine r_goto (q := 29) dX10_figures_25 (by decide) ?_
    refine r_iret dX10_figures_29 rfl (Nat.le_of_ble_eq_true rfl) (Nat.le_of_ble_eq_true rfl) ?_
    exact hp
  · rw [if_neg e]
    show WF _ E Po _ _ _ _ _ _ _
    rw [if_neg e] at hp
    refine r_if_eq (q := 28) (q2 := 16) dX10_figures_13 (by decide) rfl (fun _ => ?_) (fun h9 => absurd rfl h9)
    refine r_iload_n (q := 29) dX10_figures_28 rfl rfl rfl ?_
    refine r_iret dX10_figures_29 rfl (Nat.le_of_ble_eq_true rfl) (Nat.le_of_ble_eq_true rfl) ?_
    exact hp
theorem byt_ne {i j : Nat} (hi : i < 54) (hj : j < xLen.getD i 0) : ¬ (-1 : Int32) = (xByt.getD i []).getD j 0 := by
  intro e
  have h := (k_byt hi hj).2
  rw [← e] at h
  exact absurd h (by decide)
theorem sgS_in {f : Nat → Int32} {n p j : Nat} (hn : n ≤ 60) (h : p + j < n) : sgS f (nI n) (nI p + nI j) = f (p + j) := by
  unfold sgS
  rw [nI_add, if_neg (nI_pos (by omega)), if_neg (fun q => by have := (nI_leI (by omega) (by omega)).mp q; omega), if_neg (fun q => by have := (nI_leI (a := 60) (by omega) (by omega)).mp q; omega), nI_cl (by omega)]
theorem sgS_out {f : Nat → Int32} {n p j : Nat} (hp : p + j < 1000) (h : n ≤ p + j) : sgS f (nI n) (nI p + nI j) = -1 := by
  unfold sgS
  rw [nI_add, if_neg (nI_pos (by omega)), if_pos ((nI_leI (by omega) (by omega)).mpr h)]
set_option maxRecDepth 100000 in
set_option maxHeartbeats 4000000 in
theorem lp_X10_alike {E : xE} {Po : xPo} {w0 w : xW} {m : Nat} {d : xCo} {r : mRs} {o : Nat → Int32} {t : mTx} {p n k i : Nat} {wr : Int32} (hn : n ≤ 60) (hp6 : p < 500) (h7 : o 7 = nI n) (hi : i < 54) (hil : xLen.getD i 0 ≤ 40)  (n9 : Nat) : ∀ (j z : Nat) (hj : j + z = xLen.getD i 0) (hp : Po (.inl (some (.int (nI (fiF (fun j => sgS t.2.1 (nI n) (nI p + nI j)) (fun j => (xByt.getD i []).getD j 0) z j))))) (md E w m d r (oT o p wr k) t)) (hn9 : z < n9), WF M_X10_alike E Po w0 2 [some (.ref m), some (.ref (kS E i)), some (.int (nI j))] [] (md E w m d r (oT o p wr k) t) 0 0 := by
  induction n9 with
  | zero => intro j z hj hp hn9; exact absurd hn9 (Nat.not_lt_zero _)
  | succ n9 ih =>
    intro j z hj hp hn9
    refine r_iload_n (q := 3) dX10_alike_2 rfl rfl rfl ?_
    refine r_aload_n (q := 4) dX10_alike_3 rfl rfl rfl ?_
    refine r_callK (q := 7) (As := []) dX10_alike_4 s_X10_alike_198 (k_so hi) rfl rfl (Nat.le_of_ble_eq_true rfl) rfl rfl rfl (Nat.le_of_ble_eq_true rfl) (Nat.le_of_ble_eq_true rfl) ⟨(Nat.le_of_ble_eq_true rfl), (Nat.le_of_ble_eq_true rfl)⟩ rfl ?_
    refine ct_J0_length_8abf5 hi ?_
    show WF _ E Po _ _ _ _ _ _ _
    refine r_icmp_ge (q := 48) (q2 := 10) dX10_alike_7 (by decide) rfl (fun h7a => ?_) (fun h7a => ?_)
    · obtain rfl : z = 0 := by have := (nI_leI (by omega) (by omega)).mp h7a; omega
      refine r_iload_n (q := 49) dX10_alike_48 rfl rfl rfl ?_
      refine r_iret dX10_alike_49 rfl (Nat.le_of_ble_eq_true rfl) (Nat.le_of_ble_eq_true rfl) ?_
      exact hp
    · have hz : 0 < z := by
        have : ¬ xLen.getD i 0 ≤ j := fun q => h7a ((nI_leI (by omega) (by omega)).mpr q)
        omega
      obtain ⟨z2, rfl⟩ : ∃ q, z = q + 1 := ⟨z - 1, by omega⟩
      rw [fiF] at hp
      refine r_aload_n (q := 11) dX10_alike_10 rfl rfl rfl ?_
      refine r_getfield (q := 14) dX10_alike_11 f_X10_alike_249 md_g0 rfl rfl ?_
      rw [show oT o p wr k 8 = nI p from rfl]
      refine r_iload_n (q := 15) dX10_alike_14 rfl rfl rfl ?_
      refine r_iadd (q := 16) dX10_alike_15 rfl ?_
      have hpj : (nI p + nI j) = nI (p + j) := nI_add p j
      rw [hpj]
      refine r_aload_n (q := 17) dX10_alike_16 rfl rfl rfl ?_
      refine r_getfield (q := 20) dX10_alike_17 f_X10_alike_244 md_g0 rfl rfl ?_
      rw [show oT o p wr k 7 = nI n from h7]
      refine r_icmp_ge (q := 48) (q2 := 23) dX10_alike_20 (by decide) rfl (fun h20 => ?_) (fun h20 => ?_)
      · have hout : n ≤ p + j := (nI_leI (by omega) (by omega)).mp h20
        rw [if_neg (by rw [sgS_out (by omega) hout]; exact byt_ne hi (by omega))] at hp
        refine r_iload_n (q := 49) dX10_alike_48 rfl rfl rfl ?_
        refine r_iret dX10_alike_49 rfl (Nat.le_of_ble_eq_true rfl) (Nat.le_of_ble_eq_true rfl) ?_
        exact hp
      · have hin : p + j < n := by
          have : ¬ n ≤ p + j := fun q => h20 ((nI_leI (by omega) (by omega)).mpr q)
          omega
        rw [sgS_in hn hin] at hp
        refine r_aload_n (q := 24) dX10_alike_23 rfl rfl rfl ?_
        refine r_getfield (q := 27) dX10_alike_24 f_X10_alike_53 md_g0 rfl rfl ?_
        refine r_aload_n (q := 28) dX10_alike_27 rfl rfl rfl ?_
        refine r_getfield (q := 31) dX10_alike_28 f_X10_alike_249 md_g0 rfl rfl ?_
        rw [show oT o p wr k 8 = nI p from rfl]
        refine r_iload_n (q := 32) dX10_alike_31 rfl rfl rfl ?_
        refine r_iadd (q := 33) dX10_alike_32 rfl ?_
        rw [hpj]
        refine r_caload (q := 34) dX10_alike_33 md_g8 (vp_in_nI (by omega) (by decide)) rfl ?_
        rw [nI_cl (by omega)]
        refine r_aload_n (q := 35) dX10_alike_34 rfl rfl rfl ?_
        refine r_iload_n (q := 36) dX10_alike_35 rfl rfl rfl ?_
        refine r_callK (q := 39) (As := [_]) dX10_alike_36 s_X10_alike_204 (k_so hi) rfl rfl (Nat.le_of_ble_eq_true rfl) rfl rfl rfl (Nat.le_of_ble_eq_true rfl) (Nat.le_of_ble_eq_true rfl) ⟨(Nat.le_of_ble_eq_true rfl), (Nat.le_of_ble_eq_true rfl)⟩ rfl ?_
        refine ct_J0_charAt_5068e hi (by omega) ?_
        show WF _ E Po _ _ _ _ _ _ _
        refine r_icmp_ne (q := 48) (q2 := 42) dX10_alike_39 (by decide) rfl (fun h39 => ?_) (fun h39 => ?_)
        · rw [if_neg h39] at hp
          refine r_iload_n (q := 49) dX10_alike_48 rfl rfl rfl ?_
          refine r_iret dX10_alike_49 rfl (Nat.le_of_ble_eq_true rfl) (Nat.le_of_ble_eq_true rfl) ?_
          exact hp
        · rw [if_pos h39] at hp
          refine r_iinc (q := 45) dX10_alike_42 rfl (Nat.le_of_ble_eq_true rfl) (xone_of rfl) rfl ?_
          rw [show nI j + Int32.ofInt 1 = nI (j + 1) from nI_1 j]
          refine r_goto (q := 2) dX10_alike_45 (by decide) ?_
          exact ih (j + 1) z2 (by omega) hp (by omega)
set_option maxRecDepth 100000 in
set_option maxHeartbeats 4000000 in
theorem ct_X10_alike {E : xE} {Po : xPo} {w : xW} {m : Nat} {d : xCo} {r : mRs} {o : Nat → Int32} {t : mTx} {p n k : Nat} {wr : Int32} {i : Nat} (hn : n ≤ 60) (hp6 : p < 500) (h7 : o 7 = nI n) (hi : i < 54) (hil : xLen.getD i 0 ≤ 40) (hp : Po (.inl (some (.int (nI (fiS t.2.1 (nI n) (nI p) i))))) (md E w m d r (oT o p wr k) t)) : Ct M_X10_alike E [.ref m, .ref (kS E i)] (md E w m d r (oT o p wr k) t) Po := by
  refine Ct.of (ws2 := xAll) (L := [some (.ref m), some (.ref (kS E i)), none]) (by decide +kernel) rfl rfl (List.forall_mem_cons.mpr ⟨rfl, List.forall_mem_cons.mpr ⟨rfl, fun _ h => absurd h List.not_mem_nil⟩⟩) (Nat.le_of_ble_eq_true rfl) rfl ?_
  refine r_iconst (q := 1) (v := 0) dX10_alike_0 rfl rfl ?_
  refine r_istore_n (q := 2) dX10_alike_1 rfl (Nat.le_of_ble_eq_true rfl) (xone_of rfl) rfl ?_
  exact lp_X10_alike hn hp6 h7 hi hil (xLen.getD i 0 + 1) 0 _ (by omega) hp (by omega)
theorem wrd_rf {E : xE} {i : Nat} (h : i < 9) : va_rf (if i < 9 then some (kS E (28 + i)) else none) = .ref (kS E (28 + i)) := by rw [if_pos h]; rfl
theorem nI_max {a b : Nat} (ha : a < 1000) (hb : b < 1000) : (if nI a < nI b then nI b else nI a) = nI (if a < b then b else a) := by
  by_cases h : a < b
  · rw [if_pos h, if_pos (nI_lt h (by omega))]
  · rw [if_neg h, if_neg (fun q => h ((nI_ltI (by omega) (by omega)).mp q))]
set_option maxRecDepth 100000 in
set_option maxHeartbeats 4000000 in
theorem lp_X10_words {E : xE} {Po : xPo} {w0 w : xW} {m : Nat} {d : xCo} {r : mRs} {o : Nat → Int32} {t : mTx} {p n k : Nat} {wr : Int32} (hn : n ≤ 60) (hp6 : p < 500) (h7 : o 7 = nI n) (kx : ∀ o4 : Option Value, WF M_X10_readCommand E Po w0 60 [some (.ref m), some (.int (nI (rkS t.2.1 n p).1)), some (.int (bsI (rkS t.2.1 n p).2)), some (.int (nI 9)), o4] [] (md E w m d r (oT o p wr k) t) 0 0) (n9 : Nat) : ∀ (i z l : Nat) (v : Option Nat) (o4 : Option Value) (hz : i + z = 9) (hl : l ≤ 6) (hk : rkF (fun i => fiS t.2.1 (nI n) (nI p) (28 + i)) z i l v = rkS t.2.1 n p) (hn9 : z < n9), WF M_X10_readCommand E Po w0 6 [some (.ref m), some (.int (nI l)), some (.int (bsI v)), some (.int (nI i)), o4] [] (md E w m d r (oT o p wr k) t) 0 0 := by
  induction n9 with
  | zero => intro i z l v o4 hz hl hk hn9; exact absurd hn9 (Nat.not_lt_zero _)
  | succ n9 ih =>
    intro i z l v o4 hz hl hk hn9
    refine r_iload_n (q := 7) dX10_readCommand_6 rfl rfl rfl ?_
    refine r_aload_n (q := 8) dX10_readCommand_7 rfl rfl rfl ?_
    refine r_getfield (q := 11) dX10_readCommand_8 f_X10_readCommand_49 md_g0 rfl rfl ?_
    refine r_alen (q := 12) (t0 := 6) dX10_readCommand_11 rfl md_g7 rfl ?_
    refine r_icmp_ge (q := 60) (q2 := 15) dX10_readCommand_12 (by decide) rfl (fun h12 => ?_) (fun h12 => ?_)
    · obtain rfl : z = 0 := by have := (nI_leI (a := 9) (by omega) (by omega)).mp h12; omega
      obtain rfl : i = 9 := by omega
      rw [rkF] at hk
      rw [show l = (rkS t.2.1 n p).1 by rw [← hk], show v = (rkS t.2.1 n p).2 by rw [← hk]]
      exact kx _
    · have hi9 : i < 9 := by
        have : ¬ 9 ≤ i := fun q => h12 ((nI_leI (a := 9) (by omega) (by omega)).mpr q)
        omega
      obtain ⟨z2, rfl⟩ : ∃ q, z = q + 1 := ⟨z - 1, by omega⟩
      rw [rkF] at hk
      have wk := wl_ok i hi9
      have hf6 : fiS t.2.1 (nI n) (nI p) (28 + i) ≤ 6 := Nat.le_trans fiS_le wk.2
      refine r_aload_n (q := 16) dX10_readCommand_15 rfl rfl rfl ?_
      refine r_aload_n (q := 17) dX10_readCommand_16 rfl rfl rfl ?_
      refine r_getfield (q := 20) dX10_readCommand_17 f_X10_readCommand_49 md_g0 rfl rfl ?_
      refine r_iload_n (q := 21) dX10_readCommand_20 rfl rfl rfl ?_
      refine r_aaload (q := 22) (t0 := 6) dX10_readCommand_21 rfl md_g7 (vp_in_nI hi9 (by decide)) rfl ?_
      rw [nI_cl (by omega), wrd_rf hi9]
      refine r_callV (q := 25) (ci := 12) (As := [_]) dX10_readCommand_22 s_X10_readCommand_263 md_g0 rfl rfl rfl (Nat.le_of_ble_eq_true rfl) rfl rfl rfl (Nat.le_of_ble_eq_true rfl) (Nat.le_of_ble_eq_true rfl) ⟨(Nat.le_of_ble_eq_true rfl), (Nat.le_of_ble_eq_true rfl)⟩ rfl ?_
      refine ct_X10_alike hn hp6 h7 (by omega) (by omega) ?_
      show WF _ E Po _ _ _ _ _ _ _
      refine r_istore (q := 27) dX10_readCommand_25 (Nat.le_of_ble_eq_true rfl) (xone_of rfl) rfl ?_
      refine r_iload (q := 29) dX10_readCommand_27 rfl rfl ?_
      refine r_aload_n (q := 30) dX10_readCommand_29 rfl rfl rfl ?_
      refine r_getfield (q := 33) dX10_readCommand_30 f_X10_readCommand_49 md_g0 rfl rfl ?_
      refine r_iload_n (q := 34) dX10_readCommand_33 rfl rfl rfl ?_
      refine r_aaload (q := 35) (t0 := 6) dX10_readCommand_34 rfl md_g7 (vp_in_nI hi9 (by decide)) rfl ?_
      rw [nI_cl (by omega), wrd_rf hi9]
      refine r_callK (q := 38) (As := []) dX10_readCommand_35 s_X10_readCommand_198 (k_so (by omega)) rfl rfl (Nat.le_of_ble_eq_true rfl) rfl rfl rfl (Nat.le_of_ble_eq_true rfl) (Nat.le_of_ble_eq_true rfl) ⟨(Nat.le_of_ble_eq_true rfl), (Nat.le_of_ble_eq_true rfl)⟩ rfl ?_
      refine ct_J0_length_8abf5 (by omega) ?_
      show WF _ E Po _ _ _ _ _ _ _
      refine r_icmp_ne (q := 45) (q2 := 41) dX10_readCommand_38 (by decide) rfl (fun h38 => ?_) (fun h38 => ?_)
      · have hne : ¬ fiS t.2.1 (nI n) (nI p) (28 + i) = xLen.getD (28 + i) 0 := fun q => h38 (by rw [q])
        rw [if_neg hne] at hk
        refine r_iload_n (q := 46) dX10_readCommand_45 rfl rfl rfl ?_
        refine r_istore_n (q := 47) dX10_readCommand_46 rfl (Nat.le_of_ble_eq_true rfl) (xone_of rfl) rfl ?_
        refine r_iload_n (q := 48) dX10_readCommand_47 rfl rfl rfl ?_
        refine r_iload (q := 50) dX10_readCommand_48 rfl rfl ?_
        refine r_mmax (q := 53) dX10_readCommand_50 p_X10_readCommand_175 (Nat.le_of_ble_eq_true rfl) rfl (Nat.le_of_ble_eq_true rfl) (Nat.le_of_ble_eq_true rfl) ?_
        rw [nI_max (by omega) (by omega)]
        refine r_istore_n (q := 54) dX10_readCommand_53 rfl (Nat.le_of_ble_eq_true rfl) (xone_of rfl) rfl ?_
        refine r_iinc (q := 57) dX10_readCommand_54 rfl (Nat.le_of_ble_eq_true rfl) (xone_of rfl) rfl ?_
        rw [show nI i + Int32.ofInt 1 = nI (i + 1) from nI_1 i]
        refine r_goto (q := 6) dX10_readCommand_57 (by decide) ?_
        first
        | exact ih (i + 1) z2 _ v _ (by omega) (by split <;> omega) hk (by omega)
        | exact ih (i + 1) z2 _ (some i) _ (by omega) (by split <;> omega) hk (by omega)
      · have hne : fiS t.2.1 (nI n) (nI p) (28 + i) = xLen.getD (28 + i) 0 := (nI_eq (by omega) (by omega)).mp h38
        rw [if_pos hne] at hk
        refine r_iload_n (q := 42) dX10_readCommand_41 rfl rfl rfl ?_
        refine r_goto (q := 46) dX10_readCommand_42 (by decide) ?_
        refine r_istore_n (q := 47) dX10_readCommand_46 rfl (Nat.le_of_ble_eq_true rfl) (xone_of rfl) rfl ?_
        refine r_iload_n (q := 48) dX10_readCommand_47 rfl rfl rfl ?_
        refine r_iload (q := 50) dX10_readCommand_48 rfl rfl ?_
        refine r_mmax (q := 53) dX10_readCommand_50 p_X10_readCommand_175 (Nat.le_of_ble_eq_true rfl) rfl (Nat.le_of_ble_eq_true rfl) (Nat.le_of_ble_eq_true rfl) ?_
        rw [nI_max (by omega) (by omega)]
        refine r_istore_n (q := 54) dX10_readCommand_53 rfl (Nat.le_of_ble_eq_true rfl) (xone_of rfl) rfl ?_
        refine r_iinc (q := 57) dX10_readCommand_54 rfl (Nat.le_of_ble_eq_true rfl) (xone_of rfl) rfl ?_
        rw [show nI i + Int32.ofInt 1 = nI (i + 1) from nI_1 i]
        refine r_goto (q := 6) dX10_readCommand_57 (by decide) ?_
        first
        | exact ih (i + 1) z2 _ v _ (by omega) (by split <;> omega) hk (by omega)
        | exact ih (i + 1) z2 _ (some i) _ (by omega) (by split <;> omega) hk (by omega)
set_option maxRecDepth 100000 in
set_option maxHeartbeats 4000000 in
theorem lp_X10_rc3 {E : xE} {Po : xPo} {w0 w : xW} {m : Nat} {d : xCo} {r : mRs} {o : Nat → Int32} {t : mTx} {com : Nat → Int32} {p n k c : Nat} {x0 wr l1 : Int32} {o4 : Option Value} (hn : n ≤ 60) (hp6 : p < 300) (h7 : o 7 = nI n) (hk : k < 50) (hc : c < 9) (n9 : Nat) : ∀ (z : Nat) (hp : Po (.inl none) (md E w m d r (oT o (rc3M t.2.1 n c k com (x0, p, wr)).1 (rc3M t.2.1 n c k com (x0, p, wr)).2.1 (rc3M t.2.1 n c k com (x0, p, wr)).2.2.1) (t.1, t.2.1, (rc3M t.2.1 n c k com (x0, p, wr)).2.2.2))) (hn9 : 0 < n9), WF M_X10_readCommand E Po w0 129 [some (.ref m), some (.int l1), some (.int (nI c)), some (.int (nI (3 * k))), o4] [] (md E w m d r (oT o p wr k) (t.1, t.2.1, upd (upd com (3 * k) (nI c)) (3 * k + 1) x0)) 0 0 := by
  induction n9 with
  | zero => intro z hp hn9; exact absurd hn9 (Nat.not_lt_zero _)
  | succ n9 ih =>
    intro z hp hn9
    unfold rc3M at hp
    have hq1 := sgM_p (f := t.2.1) (n := n) (a := 32) (b := 32) (p := p) (wr := wr)
    refine r_iload_n (q := 130) dX10_readCommand_129 rfl rfl rfl ?_
    refine r_if_eq (q := 143) (q2 := 133) dX10_readCommand_130 (by decide) rfl (fun h130 => ?_) (fun h130 => ?_)
    · have hc3 : c = 0 ∨ c = 2 ∨ c = 5 := Or.inl ((nI_eq (b := 0) (by omega) (by decide)).mp h130)
      rw [if_pos hc3] at hp
      refine r_aload_n (q := 144) dX10_readCommand_143 rfl rfl rfl ?_
      refine r_bipush (q := 146) (v := 32) dX10_readCommand_144 (by decide) rfl ?_
      refine r_bipush (q := 148) (v := 32) dX10_readCommand_146 (by decide) rfl ?_
      refine r_callV (q := 151) (ci := 12) (As := [_, _]) dX10_readCommand_148 s_X10_readCommand_256 md_g0 rfl rfl rfl (Nat.le_of_ble_eq_true rfl) rfl rfl rfl (Nat.le_of_ble_eq_true rfl) (Nat.le_of_ble_eq_true rfl) ⟨(Nat.le_of_ble_eq_true rfl), (Nat.le_of_ble_eq_true rfl)⟩ rfl ?_
      refine ct_X10_sign hn (by omega) h7 ?_
      show WF _ E Po _ _ _ _ _ _ _
      refine r_istore (q := 153) dX10_readCommand_151 (Nat.le_of_ble_eq_true rfl) (xone_of rfl) rfl ?_
      refine r_aload_n (q := 154) dX10_readCommand_153 rfl rfl rfl ?_
      refine r_getfield (q := 157) dX10_readCommand_154 f_X10_readCommand_60 md_g0 rfl rfl ?_
      refine r_iload_n (q := 158) dX10_readCommand_157 rfl rfl rfl ?_
      refine r_iconst (q := 159) (v := 2) dX10_readCommand_158 rfl rfl ?_
      refine r_iadd (q := 160) dX10_readCommand_159 rfl ?_
      rw [show nI (3 * k) + 2 = nI (3 * k + 2) from nI_add _ 2]
      refine r_aload_n (q := 161) dX10_readCommand_160 rfl rfl rfl ?_
      refine r_callV (q := 164) (ci := 12) (As := []) dX10_readCommand_161 s_X10_readCommand_260 md_g0 rfl rfl rfl (Nat.le_of_ble_eq_true rfl) rfl rfl rfl (Nat.le_of_ble_eq_true rfl) (Nat.le_of_ble_eq_true rfl) ⟨(Nat.le_of_ble_eq_true rfl), (Nat.le_of_ble_eq_true rfl)⟩ rfl ?_
      refine ct_X10_digit hn (by show (sgM t.2.1 n 32 32 p wr).2.1 < 500; omega) h7 ?_
      show WF _ E Po _ _ _ _ _ _ _
      refine r_iastore (q := 165) dX10_readCommand_164 md_g9 (vp_in_nI (by omega) (by decide)) rfl ?_
      rw [nI_cl (by omega)]
      refine WF.cw md_p9 ?_
      refine r_aload_n (q := 166) dX10_readCommand_165 rfl rfl rfl ?_
      refine r_dup (q := 167) dX10_readCommand_166 rfl rfl ?_
      refine r_getfield (q := 170) dX10_readCommand_167 f_X10_readCommand_267 md_g0 rfl rfl ?_
      refine r_iconst (q := 171) (v := 1) dX10_readCommand_170 rfl rfl ?_
      refine r_iadd (q := 172) dX10_readCommand_171 rfl ?_
      refine r_putfield (q := 175) dX10_readCommand_172 f_X10_readCommand_267 md_g0 rfl rfl (by exact Nat.le_of_ble_eq_true rfl) rfl ?_
      refine WF.cw (md_po (i := 11)) ?_
      first
| rw [show oT o _ _ k 11 + 1 = nI (k + 1) from nI_1 k, oT_11]
| skip
      refine r_vret dX10_readCommand_175 rfl (Nat.le_of_ble_eq_true rfl) (Nat.le_of_ble_eq_true rfl) ?_
      exact hp
    · have c0 : ¬ c = 0 := fun q => h130 (by rw [q]; rfl)
      refine r_iload_n (q := 134) dX10_readCommand_133 rfl rfl rfl ?_
      refine r_iconst (q := 135) (v := 2) dX10_readCommand_134 rfl rfl ?_
      refine r_icmp_eq (q := 143) (q2 := 138) dX10_readCommand_135 (by decide) rfl (fun h135 => ?_) (fun h135 => ?_)
      · have hc3 : c = 0 ∨ c = 2 ∨ c = 5 := Or.inr (Or.inl ((nI_eq (b := 2) (by omega) (by decide)).mp h135))
        rw [if_pos hc3] at hp
        refine r_aload_n (q := 144) dX10_readCommand_143 rfl rfl rfl ?_
        refine r_bipush (q := 146) (v := 32) dX10_readCommand_144 (by decide) rfl ?_
        refine r_bipush (q := 148) (v := 32) dX10_readCommand_146 (by decide) rfl ?_
        refine r_callV (q := 151) (ci := 12) (As := [_, _]) dX10_readCommand_148 s_X10_readCommand_256 md_g0 rfl rfl rfl (Nat.le_of_ble_eq_true rfl) rfl rfl rfl (Nat.le_of_ble_eq_true rfl) (Nat.le_of_ble_eq_true rfl) ⟨(Nat.le_of_ble_eq_true rfl), (Nat.le_of_ble_eq_true rfl)⟩ rfl ?_
        refine ct_X10_sign hn (by omega) h7 ?_
        show WF _ E Po _ _ _ _ _ _ _
        refine r_istore (q := 153) dX10_readCommand_151 (Nat.le_of_ble_eq_true rfl) (xone_of rfl) rfl ?_
        refine r_aload_n (q := 154) dX10_readCommand_153 rfl rfl rfl ?_
        refine r_getfield (q := 157) dX10_readCommand_154 f_X10_readCommand_60 md_g0 rfl rfl ?_
        refine r_iload_n (q := 158) dX10_readCommand_157 rfl rfl rfl ?_
        refine r_iconst (q := 159) (v := 2) dX10_readCommand_158 rfl rfl ?_
        refine r_iadd (q := 160) dX10_readCommand_159 rfl ?_
        rw [show nI (3 * k) + 2 = nI (3 * k + 2) from nI_add _ 2]
        refine r_aload_n (q := 161) dX10_readCommand_160 rfl rfl rfl ?_
        refine r_callV (q := 164) (ci := 12) (As := []) dX10_readCommand_161 s_X10_readCommand_260 md_g0 rfl rfl rfl (Nat.le_of_ble_eq_true rfl) rfl rfl rfl (Nat.le_of_ble_eq_true rfl) (Nat.le_of_ble_eq_true rfl) ⟨(Nat.le_of_ble_eq_true rfl), (Nat.le_of_ble_eq_true rfl)⟩ rfl ?_
        refine ct_X10_digit hn (by show (sgM t.2.1 n 32 32 p wr).2.1 < 500; omega) h7 ?_
        show WF _ E Po _ _ _ _ _ _ _
        refine r_iastore (q := 165) dX10_readCommand_164 md_g9 (vp_in_nI (by omega) (by decide)) rfl ?_
        rw [nI_cl (by omega)]
        refine WF.cw md_p9 ?_
        refine r_aload_n (q := 166) dX10_readCommand_165 rfl rfl rfl ?_
        refine r_dup (q := 167) dX10_readCommand_166 rfl rfl ?_
        refine r_getfield (q := 170) dX10_readCommand_167 f_X10_readCommand_267 md_g0 rfl rfl ?_
        refine r_iconst (q := 171) (v := 1) dX10_readCommand_170 rfl rfl ?_
        refine r_iadd (q := 172) dX10_readCommand_171 rfl ?_
        refine r_putfield (q := 175) dX10_readCommand_172 f_X10_readCommand_267 md_g0 rfl rfl (by exact Nat.le_of_ble_eq_true rfl) rfl ?_
        refine WF.cw (md_po (i := 11)) ?_
        first
| rw [show oT o _ _ k 11 + 1 = nI (k + 1) from nI_1 k, oT_11]
| skip
        refine r_vret dX10_readCommand_175 rfl (Nat.le_of_ble_eq_true rfl) (Nat.le_of_ble_eq_true rfl) ?_
        exact hp
      · have c2 : ¬ c = 2 := fun q => h135 (by rw [q]; rfl)
        refine r_iload_n (q := 139) dX10_readCommand_138 rfl rfl rfl ?_
        refine r_iconst (q := 140) (v := 5) dX10_readCommand_139 rfl rfl ?_
        refine r_icmp_ne (q := 165) (q2 := 143) dX10_readCommand_140 (by decide) rfl (fun h140 => ?_) (fun h140 => ?_)
        · have c5 : ¬ c = 5 := fun q => h140 (by rw [q]; rfl)
          rw [if_neg (fun q => q.elim c0 (fun q => q.elim c2 c5))] at hp
          refine r_aload_n (q := 166) dX10_readCommand_165 rfl rfl rfl ?_
          refine r_dup (q := 167) dX10_readCommand_166 rfl rfl ?_
          refine r_getfield (q := 170) dX10_readCommand_167 f_X10_readCommand_267 md_g0 rfl rfl ?_
          refine r_iconst (q := 171) (v := 1) dX10_readCommand_170 rfl rfl ?_
          refine r_iadd (q := 172) dX10_readCommand_171 rfl ?_
          refine r_putfield (q := 175) dX10_readCommand_172 f_X10_readCommand_267 md_g0 rfl rfl (by exact Nat.le_of_ble_eq_true rfl) rfl ?_
          refine WF.cw (md_po (i := 11)) ?_
          first
| rw [show oT o _ _ k 11 + 1 = nI (k + 1) from nI_1 k, oT_11]
| skip
          refine r_vret dX10_readCommand_175 rfl (Nat.le_of_ble_eq_true rfl) (Nat.le_of_ble_eq_true rfl) ?_
          exact hp
        · have hc3 : c = 0 ∨ c = 2 ∨ c = 5 := Or.inr (Or.inr ((nI_eq (b := 5) (by omega) (by decide)).mp h140))
          rw [if_pos hc3] at hp
          refine r_aload_n (q := 144) dX10_readCommand_143 rfl rfl rfl ?_
          refine r_bipush (q := 146) (v := 32) dX10_readCommand_144 (by decide) rfl ?_
          refine r_bipush (q := 148) (v := 32) dX10_readCommand_146 (by decide) rfl ?_
          refine r_callV (q := 151) (ci := 12) (As := [_, _]) dX10_readCommand_148 s_X10_readCommand_256 md_g0 rfl rfl rfl (Nat.le_of_ble_eq_true rfl) rfl rfl rfl (Nat.le_of_ble_eq_true rfl) (Nat.le_of_ble_eq_true rfl) ⟨(Nat.le_of_ble_eq_true rfl), (Nat.le_of_ble_eq_true rfl)⟩ rfl ?_
          refine ct_X10_sign hn (by omega) h7 ?_
          show WF _ E Po _ _ _ _ _ _ _
          refine r_istore (q := 153) dX10_readCommand_151 (Nat.le_of_ble_eq_true rfl) (xone_of rfl) rfl ?_
          refine r_aload_n (q := 154) dX10_readCommand_153 rfl rfl rfl ?_
          refine r_getfield (q := 157) dX10_readCommand_154 f_X10_readCommand_60 md_g0 rfl rfl ?_
          refine r_iload_n (q := 158) dX10_readCommand_157 rfl rfl rfl ?_
          refine r_iconst (q := 159) (v := 2) dX10_readCommand_158 rfl rfl ?_
          refine r_iadd (q := 160) dX10_readCommand_159 rfl ?_
          rw [show nI (3 * k) + 2 = nI (3 * k + 2) from nI_add _ 2]
          refine r_aload_n (q := 161) dX10_readCommand_160 rfl rfl rfl ?_
          refine r_callV (q := 164) (ci := 12) (As := []) dX10_readCommand_161 s_X10_readCommand_260 md_g0 rfl rfl rfl (Nat.le_of_ble_eq_true rfl) rfl rfl rfl (Nat.le_of_ble_eq_true rfl) (Nat.le_of_ble_eq_true rfl) ⟨(Nat.le_of_ble_eq_true rfl), (Nat.le_of_ble_eq_true rfl)⟩ rfl ?_
          refine ct_X10_digit hn (by show (sgM t.2.1 n 32 32 p wr).2.1 < 500; omega) h7 ?_
          show WF _ E Po _ _ _ _ _ _ _
          refine r_iastore (q := 165) dX10_readCommand_164 md_g9 (vp_in_nI (by omega) (by decide)) rfl ?_
          rw [nI_cl (by omega)]
          refine WF.cw md_p9 ?_
          refine r_aload_n (q := 166) dX10_readCommand_165 rfl rfl rfl ?_
          refine r_dup (q := 167) dX10_readCommand_166 rfl rfl ?_
          refine r_getfield (q := 170) dX10_readCommand_167 f_X10_readCommand_267 md_g0 rfl rfl ?_
          refine r_iconst (q := 171) (v := 1) dX10_readCommand_170 rfl rfl ?_
          refine r_iadd (q := 172) dX10_readCommand_171 rfl ?_
          refine r_putfield (q := 175) dX10_readCommand_172 f_X10_readCommand_267 md_g0 rfl rfl (by exact Nat.le_of_ble_eq_true rfl) rfl ?_
          refine WF.cw (md_po (i := 11)) ?_
          first
| rw [show oT o _ _ k 11 + 1 = nI (k + 1) from nI_1 k, oT_11]
| skip
          refine r_vret dX10_readCommand_175 rfl (Nat.le_of_ble_eq_true rfl) (Nat.le_of_ble_eq_true rfl) ?_
          exact hp
set_option maxRecDepth 100000 in
set_option maxHeartbeats 4000000 in
theorem lp_X10_rc1 {E : xE} {Po : xPo} {w0 w : xW} {m : Nat} {d : xCo} {r : mRs} {o : Nat → Int32} {t : mTx} {p n k c : Nat} {wr l1 : Int32} {o3 : Option Value} {o4 : Option Value} (hn : n ≤ 60) (hp6 : p < 200) (h7 : o 7 = nI n) (hk : k < 50) (hc : c < 9) (n9 : Nat) : ∀ (z : Nat) (hp : Po (.inl none) (md E w m d r (oT o (rc2M t.2.1 n c p k t.2.2).1 (rc2M t.2.1 n c p k t.2.2).2.1 (rc2M t.2.1 n c p k t.2.2).2.2.1) (t.1, t.2.1, (rc2M t.2.1 n c p k t.2.2).2.2.2))) (hn9 : 0 < n9), WF M_X10_readCommand E Po w0 70 [some (.ref m), some (.int l1), some (.int (nI c)), o3, o4] [] (md E w m d r (oT o p wr k) t) 0 0 := by
  induction n9 with
  | zero => intro z hp hn9; exact absurd hn9 (Nat.not_lt_zero _)
  | succ n9 ih =>
    intro z hp hn9
    unfold rc2M at hp
    have hq1 := sgM_p (f := t.2.1) (n := n) (a := 48) (b := 57) (p := p) (wr := 0)
    have hq2 := fgM_p (f := t.2.1) (n := n) (p := p) (wr := 0)
    refine r_aload_n (q := 71) dX10_readCommand_70 rfl rfl rfl ?_
    refine r_iload_n (q := 72) dX10_readCommand_71 rfl rfl rfl ?_
    refine r_if_ge (q := 79) (q2 := 75) dX10_readCommand_72 (by decide) rfl (fun _ => ?_) (fun h9 => absurd (nI_pos' (by omega)) h9)
    refine r_iconst (q := 80) (v := 0) dX10_readCommand_79 rfl rfl ?_
    refine r_putfield (q := 83) dX10_readCommand_80 f_X10_readCommand_246 md_g0 rfl rfl (by exact Nat.le_of_ble_eq_true rfl) rfl ?_
    refine WF.cw (md_po (i := 9)) ?_
    rw [oT_9]
    refine r_aload_n (q := 84) dX10_readCommand_83 rfl rfl rfl ?_
    refine r_getfield (q := 87) dX10_readCommand_84 f_X10_readCommand_246 md_g0 rfl rfl ?_
    refine r_if_eq (q := 91) (q2 := 90) dX10_readCommand_87 (by decide) rfl (fun _ => ?_) (fun h9 => absurd rfl h9)
    refine r_iconst (q := 92) (v := 3) dX10_readCommand_91 rfl rfl ?_
    refine r_aload_n (q := 93) dX10_readCommand_92 rfl rfl rfl ?_
    refine r_getfield (q := 96) dX10_readCommand_93 f_X10_readCommand_267 md_g0 rfl rfl ?_
    refine r_imul (q := 97) dX10_readCommand_96 rfl ?_
    rw [show (3 : Int32) * oT o p 0 k 11 = nI (3 * k) from nI_mul 3 k]
    refine r_istore_n (q := 98) dX10_readCommand_97 rfl (Nat.le_of_ble_eq_true rfl) (xone_of rfl) rfl ?_
    refine r_aload_n (q := 99) dX10_readCommand_98 rfl rfl rfl ?_
    refine r_getfield (q := 102) dX10_readCommand_99 f_X10_readCommand_60 md_g0 rfl rfl ?_
    refine r_iload_n (q := 103) dX10_readCommand_102 rfl rfl rfl ?_
    refine r_iload_n (q := 104) dX10_readCommand_103 rfl rfl rfl ?_
    refine r_iastore (q := 105) dX10_readCommand_104 md_g9 (vp_in_nI (by omega) (by decide)) rfl ?_
    rw [nI_cl (by omega)]
    refine WF.cw md_p9 ?_
    refine r_aload_n (q := 106) dX10_readCommand_105 rfl rfl rfl ?_
    refine r_getfield (q := 109) dX10_readCommand_106 f_X10_readCommand_60 md_g0 rfl rfl ?_
    refine r_iload_n (q := 110) dX10_readCommand_109 rfl rfl rfl ?_
    refine r_iconst (q := 111) (v := 1) dX10_readCommand_110 rfl rfl ?_
    refine r_iadd (q := 112) dX10_readCommand_111 rfl ?_
    rw [nI_1]
    refine r_iload_n (q := 113) dX10_readCommand_112 rfl rfl rfl ?_
    refine r_iconst (q := 114) (v := 5) dX10_readCommand_113 rfl rfl ?_
    refine r_icmp_le (q := 124) (q2 := 117) dX10_readCommand_114 (by decide) rfl (fun h114 => ?_) (fun h114 => ?_)
    · have c5 : c ≤ 5 := (nI_leI (b := 5) (by omega) (by decide)).mp h114
      rw [if_pos c5] at hp
      refine r_aload_n (q := 125) dX10_readCommand_124 rfl rfl rfl ?_
      refine r_callV (q := 128) (ci := 12) (As := []) dX10_readCommand_125 s_X10_readCommand_260 md_g0 rfl rfl rfl (Nat.le_of_ble_eq_true rfl) rfl rfl rfl (Nat.le_of_ble_eq_true rfl) (Nat.le_of_ble_eq_true rfl) ⟨(Nat.le_of_ble_eq_true rfl), (Nat.le_of_ble_eq_true rfl)⟩ rfl ?_
      refine ct_X10_digit hn (by omega) h7 ?_
      show WF _ E Po _ _ _ _ _ _ _
      refine r_iastore (q := 129) dX10_readCommand_128 md_g9 (vp_in_nI (by omega) (by decide)) rfl ?_
      rw [nI_cl (by omega)]
      refine WF.cw md_p9 ?_
      exact lp_X10_rc3 (t := t) (com := t.2.2) hn (by first | (show (sgM t.2.1 n 48 57 p 0).2.1 < 300; omega) | (show (fgM t.2.1 n p 0).2.1 < 300; omega)) h7 hk hc 1 0 hp (by decide)
    · have c5 : ¬ c ≤ 5 := fun q => h114 ((nI_leI (b := 5) (by omega) (by decide)).mpr q)
      rw [if_neg c5] at hp
      refine r_aload_n (q := 118) dX10_readCommand_117 rfl rfl rfl ?_
      refine r_callV (q := 121) (ci := 12) (As := []) dX10_readCommand_118 s_X10_readCommand_270 md_g0 rfl rfl rfl (Nat.le_of_ble_eq_true rfl) rfl rfl rfl (Nat.le_of_ble_eq_true rfl) (Nat.le_of_ble_eq_true rfl) ⟨(Nat.le_of_ble_eq_true rfl), (Nat.le_of_ble_eq_true rfl)⟩ rfl ?_
      refine ct_X10_figures hn (by omega) h7 ?_
      show WF _ E Po _ _ _ _ _ _ _
      refine r_goto (q := 128) dX10_readCommand_121 (by decide) ?_
      refine r_iastore (q := 129) dX10_readCommand_128 md_g9 (vp_in_nI (by omega) (by decide)) rfl ?_
      rw [nI_cl (by omega)]
      refine WF.cw md_p9 ?_
      exact lp_X10_rc3 (t := t) (com := t.2.2) hn (by first | (show (sgM t.2.1 n 48 57 p 0).2.1 < 300; omega) | (show (fgM t.2.1 n p 0).2.1 < 300; omega)) h7 hk hc 1 0 hp (by decide)
set_option maxRecDepth 100000 in
set_option maxHeartbeats 4000000 in
theorem ct_X10_readCommand {E : xE} {Po : xPo} {w : xW} {m : Nat} {d : xCo} {r : mRs} {o : Nat → Int32} {t : mTx} {p n k : Nat} {wr : Int32} (hn : n ≤ 60) (hp6 : p < 100) (h7 : o 7 = nI n) (hk : k < 50) (hp : Po (.inl none) (md E w m d r (oT o (rcM t.2.1 n p k t.2.2).1 (rcM t.2.1 n p k t.2.2).2.1 (rcM t.2.1 n p k t.2.2).2.2.1) (t.1, t.2.1, (rcM t.2.1 n p k t.2.2).2.2.2))) : Ct M_X10_readCommand E [.ref m] (md E w m d r (oT o p wr k) t) Po := by
  refine Ct.of (ws2 := xAll) (L := [some (.ref m), none, none, none, none]) (by decide +kernel) rfl rfl (List.forall_mem_cons.mpr ⟨rfl, fun _ h => absurd h List.not_mem_nil⟩) (Nat.le_of_ble_eq_true rfl) rfl ?_
  obtain ⟨g1, g2⟩ := rkS_ok (f := t.2.1) (n := n) (p := p)
  unfold rcM at hp
  refine r_iconst (q := 1) (v := 0) dX10_readCommand_0 rfl rfl ?_
  refine r_istore_n (q := 2) dX10_readCommand_1 rfl (Nat.le_of_ble_eq_true rfl) (xone_of rfl) rfl ?_
  refine r_iconst (q := 3) (v := (-1)) dX10_readCommand_2 rfl rfl ?_
  refine r_istore_n (q := 4) dX10_readCommand_3 rfl (Nat.le_of_ble_eq_true rfl) (xone_of rfl) rfl ?_
  refine r_iconst (q := 5) (v := 0) dX10_readCommand_4 rfl rfl ?_
  refine r_istore_n (q := 6) dX10_readCommand_5 rfl (Nat.le_of_ble_eq_true rfl) (xone_of rfl) rfl ?_
  refine lp_X10_words (w0 := (md E w m d r (oT o p wr k) t)) hn (by omega) h7 (fun o4 => ?_) 10 0 9 0 none _ rfl (by decide) rfl (by decide)
  refine r_aload_n (q := 61) dX10_readCommand_60 rfl rfl rfl ?_
  refine r_dup (q := 62) dX10_readCommand_61 rfl rfl ?_
  refine r_getfield (q := 65) dX10_readCommand_62 f_X10_readCommand_249 md_g0 rfl rfl ?_
  refine r_iload_n (q := 66) dX10_readCommand_65 rfl rfl rfl ?_
  refine r_iadd (q := 67) dX10_readCommand_66 rfl ?_
  refine r_putfield (q := 70) dX10_readCommand_67 f_X10_readCommand_249 md_g0 rfl rfl (by exact Nat.le_of_ble_eq_true rfl) rfl ?_
  refine WF.cw (md_po (i := 8) (o := oT o p wr k) (v := oT o p wr k 8 + nI (rkS t.2.1 n p).1)) ?_
  rw [show oT o p wr k 8 + nI (rkS t.2.1 n p).1 = nI (p + (rkS t.2.1 n p).1) from nI_add _ _, oT_8]
  cases hv : (rkS t.2.1 n p).2 with
  | none =>
    rw [hv] at hp
    dsimp only at hp
    refine r_aload_n (q := 71) dX10_readCommand_70 rfl rfl rfl ?_
    refine r_iload_n (q := 72) dX10_readCommand_71 rfl rfl rfl ?_
    refine r_if_ge (q := 79) (q2 := 75) dX10_readCommand_72 (by decide) rfl (fun h9 => absurd h9 (by decide)) (fun _ => ?_)
    refine r_iconst (q := 76) (v := 1) dX10_readCommand_75 rfl rfl ?_
    refine r_goto (q := 80) dX10_readCommand_76 (by decide) ?_
    refine r_putfield (q := 83) dX10_readCommand_80 f_X10_readCommand_246 md_g0 rfl rfl (by exact Nat.le_of_ble_eq_true rfl) rfl ?_
    refine WF.cw (md_po (i := 9)) ?_
    rw [oT_9]
    refine r_aload_n (q := 84) dX10_readCommand_83 rfl rfl rfl ?_
    refine r_getfield (q := 87) dX10_readCommand_84 f_X10_readCommand_246 md_g0 rfl rfl ?_
    refine r_if_eq (q := 91) (q2 := 90) dX10_readCommand_87 (by decide) rfl (fun h9 => absurd h9 (show ¬ (1 : Int32) = 0 by decide)) (fun _ => ?_)
    refine r_vret dX10_readCommand_90 rfl (Nat.le_of_ble_eq_true rfl) (Nat.le_of_ble_eq_true rfl) ?_
    exact hp
  | some c =>
    rw [hv] at hp
    dsimp only at hp
    obtain ⟨g3, g4⟩ := g2 c hv
    exact lp_X10_rc1 hn (by omega) h7 hk g3 1 0 hp (by decide)
  
