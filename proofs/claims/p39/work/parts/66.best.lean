/-! ===== 66.best: seams, the best tub, hours of heating (rows laid by wip/p39/gen/make66.py) ===== -/
theorem i32_m1 (x : Int32) : x + Int32.ofInt (-1) = x - 1 := by rw [Int32.sub_eq_add_neg]; exact congrArg (x + ·) (by decide)
/-- the first torn seam from 8 - t on, as the law looks for it -/
def duF (u : Int32) : Nat → Int32
  | 0 => -13
  | t + 1 => if u >>> (nI (7 - t) &&& 31) &&& 1 = 1 then nI (7 - t) else duF u t
theorem tf_du : ∀ b, b < 256 → ∀ s, s < 8 → (if 0 ≤ tfS (nI b) (8 - s) s then tfS (nI b) (8 - s) s else -13) = duF (nI b) (8 - s) := by decide +kernel
theorem torn_du {K k s : Nat} {c : xCo} (J : J9 K c) (h : k < n1 c) (hs : s < 8) : lTorn c (nI k) (nI s) = duF (c.2.1 k 2) (8 - s) := by
  have n8 := J.1.1.2
  obtain ⟨b, hb, eb⟩ := (J.2.2.1 k (by omega)).2.1
  have h8 : ¬ (nI s < 0 ∨ 8 ≤ nI s) := fun q => q.elim (nI_pos (by omega)) (fun q => by have := (nI_leI (a := 8) (by decide) (by omega)).mp q; omega)
  unfold lTorn
  rw [if_pos (okT_in J h), if_neg h8, nI_cl (by omega), nI_cl (by omega), eb]
  exact tf_du b hb s hs
/-- a tub that can be the best; its worth -/
def okBt (c : xCo) (k : Nat) : Prop := c.2.1 k 1 < 0 ∧ c.2.1 k 2 = 0
def kyN (c : xCo) (k : Nat) : Nat := 1000 * (c.2.1 k 0).toNatClampNeg - (c.2.1 k 6).toNatClampNeg
def IsB (c : xCo) (k n : Nat) (o : Option Nat) : Prop := match o with
  | none => ∀ i, k ≤ i → i < n → ¬ okBt c i
  | some b => (k ≤ b ∧ b < n ∧ okBt c b) ∧ ∀ i, k ≤ i → i < n → okBt c i → kyN c i ≤ kyN c b ∧ (i < b → kyN c i < kyN c b)
def bvO (o : Option Nat) : Int32 := match o with
  | none => -13
  | some b => nI b
def msO (c : xCo) (o : Option Nat) : Int32 := match o with
  | none => -1
  | some b => nI (kyN c b)
theorem IsB.one {c : xCo} {n : Nat} {o p : Option Nat} (a : IsB c 0 n o) (b : IsB c 0 n p) : o = p := by
  cases o with
  | none => cases p with
    | none => rfl
    | some y => exact absurd b.1.2.2 (a y (Nat.zero_le _) b.1.2.1)
  | some x => cases p with
    | none => exact absurd a.1.2.2 (b x (Nat.zero_le _) a.1.2.1)
    | some y =>
      have h1 := a.2 y (Nat.zero_le _) b.1.2.1 b.1.2.2
      have h2 := b.2 x (Nat.zero_le _) a.1.2.1 a.1.2.2
      rcases Nat.lt_trichotomy x y with h | h | h
      · have := h2.2 h; omega
      · rw [h]
      · have := h1.2 h; omega
section KEYS
variable {K k n : Nat} {c : xCo}
/-- sizes and baths as numbers -/
def BH (c : xCo) : Prop := ∀ j, j < n1 c → ∃ z b, 1 ≤ z ∧ z ≤ 3 ∧ b < 1000 ∧ c.2.1 j 0 = nI z ∧ c.2.1 j 6 = nI b
theorem bh_of {m : Nat} (J : J9 K c) (G : GQ m c) (hm : m < 1000) (hK : K < 16000000) : BH c := by
  intro j hj
  have n8 := J.1.1.2
  obtain ⟨cl, us, ca, ba, a, ⟨b1, b2, b3⟩, e, f, Q, D⟩ := G
  obtain ⟨-, z, l, hz, -, e0, -⟩ := D j (by omega)
  obtain ⟨b, hb, eb⟩ := (J.2.2.1 j (by omega)).2.2.2.2.2.1
  have h1 : tbn c j = b := by unfold tbn; rw [eb, nI_cl (by omega)]
  have h2 := sN_mem (f := tbn c) (k := j) 8 (by omega)
  refine ⟨z, b, ?_, hz, by omega, e0, eb⟩
  have : z ≠ 0 := fun q => J.2.2.2.2.2.2.2 j hj (by rw [e0, q]; rfl)
  omega
theorem ky_v (B : BH c) (h : k < n1 c) : 1000 * c.2.1 k 0 - c.2.1 k 6 = nI (kyN c k) ∧ kyN c k < 4000 := by
  obtain ⟨z, b, h1, h2, h3, e0, e6⟩ := B k h
  unfold kyN
  rw [e0, e6, nI_cl (by omega), nI_cl (by omega), show (1000 : Int32) * nI z = nI (1000 * z) from pk_mul 1000 z]
  exact ⟨pk_sub (by omega), by omega⟩
theorem btr_k (B : BH c) {i : Nat} (hi : i < n1 c) (h : k < n1 c) : btrS (c.2.1 i) (c.2.1 k) = 0 ↔ kyN c i ≤ kyN c k := by
  obtain ⟨z, b, h1, h2, h3, e0, e6⟩ := B k h
  obtain ⟨y, d, k1, k2, k3, f0, f6⟩ := B i hi
  unfold kyN btrS
  rw [e0, e6, f0, f6, nI_cl (by omega), nI_cl (by omega), nI_cl (by omega), nI_cl (by omega)]
  by_cases p : z < y
  · rw [if_pos (nI_lt p (by omega))]
    exact ⟨fun q => absurd q (by decide), fun q => by omega⟩
  · rw [if_neg (nI_nlt (by omega) (by omega))]
    by_cases r : y = z
    · subst r
      rw [if_pos rfl]
      by_cases s : b ≤ d
      · rw [if_pos (nI_le s (by omega))]
        exact ⟨fun _ => by omega, fun _ => rfl⟩
      · rw [if_neg (fun q => s ((nI_leI (by omega) (by omega)).mp q))]
        exact ⟨fun q => absurd q (by decide), fun q => by omega⟩
    · rw [if_neg (fun q => r (nI_inj (by omega) (by omega) q))]
      exact ⟨fun _ => by omega, fun _ => rfl⟩
theorem bst_is (B : BH c) : ∀ n, n ≤ n1 c → IsB c 0 n (bestF c n)
  | 0, _ => fun i _ h => absurd h (Nat.not_lt_zero _)
  | n + 1, hn => by
    have ih := bst_is B n (by omega)
    show IsB c 0 (n + 1) (bstep c (bestF c n) n)
    unfold bstep
    have keep : ¬ okBt c n → IsB c 0 (n + 1) (bestF c n) := by
      intro no
      cases q : bestF c n with
      | none =>
        rw [q] at ih
        intro i h1 h2 h3
        by_cases e : i = n
        · subst e; exact no h3
        · exact ih i h1 (by omega) h3
      | some b =>
        rw [q] at ih
        refine ⟨⟨ih.1.1, by have := ih.1.2.1; omega, ih.1.2.2⟩, fun i h1 h2 h3 => ?_⟩
        by_cases e : i = n
        · subst e; exact absurd h3 no
        · exact ih.2 i h1 (by omega) h3
    by_cases t : 0 ≤ c.2.1 n 1
    · rw [if_pos t]
      exact keep (fun o => Int32.not_le.mpr o.1 t)
    · rw [if_neg t]
      by_cases s : c.2.1 n 2 = 0
      · rw [if_pos s]
        have ok : okBt c n := ⟨Int32.not_le.mp t, s⟩
        cases q : bestF c n with
        | none =>
          rw [q] at ih
          refine ⟨⟨Nat.zero_le _, by omega, ok⟩, fun i h1 h2 h3 => ?_⟩
          by_cases e : i = n
          · subst e; exact ⟨Nat.le_refl _, fun z => absurd z (Nat.lt_irrefl _)⟩
          · exact absurd h3 (ih i h1 (by omega))
        | some b =>
          rw [q] at ih
          have hb := ih.1.2.1
          show IsB c 0 (n + 1) (if btrS (c.2.1 n) (c.2.1 b) = 0 then some b else some n)
          by_cases r : btrS (c.2.1 n) (c.2.1 b) = 0
          · rw [if_pos r]
            have r2 := (btr_k B (by omega) (by omega)).mp r
            refine ⟨⟨Nat.zero_le _, by omega, ih.1.2.2⟩, fun i h1 h2 h3 => ?_⟩
            by_cases e : i = n
            · subst e; exact ⟨r2, fun z => by omega⟩
            · exact ih.2 i h1 (by omega) h3
          · rw [if_neg r]
            have r2 : ¬ kyN c n ≤ kyN c b := fun z => r ((btr_k B (by omega) (by omega)).mpr z)
            refine ⟨⟨Nat.zero_le _, by omega, ok⟩, fun i h1 h2 h3 => ?_⟩
            by_cases e : i = n
            · subst e; exact ⟨Nat.le_refl _, fun z => absurd z (Nat.lt_irrefl _)⟩
            · have := (ih.2 i h1 (by omega) h3).1
              exact ⟨by omega, fun _ => by omega⟩
      · rw [if_neg s]
        exact keep (fun o => s o.2)
theorem isb_no {o : Option Nat} (I : IsB c (k + 1) n o) (no : ¬ okBt c k) : IsB c k n o := by
  cases o with
  | none =>
    intro i h1 h2 h3
    by_cases e : i = k
    · subst e; exact no h3
    · exact I i (by omega) h2 h3
  | some b =>
    refine ⟨⟨by have := I.1.1; omega, I.1.2⟩, fun i h1 h2 h3 => ?_⟩
    by_cases e : i = k
    · subst e; exact absurd h3 no
    · exact I.2 i (by omega) h2 h3
theorem isb_lt {b : Nat} (I : IsB c (k + 1) n (some b)) (h : kyN c k < kyN c b) : IsB c k n (some b) := by
  refine ⟨⟨by have := I.1.1; omega, I.1.2⟩, fun i h1 h2 h3 => ?_⟩
  by_cases e : i = k
  · subst e; exact ⟨by omega, fun _ => h⟩
  · exact I.2 i (by omega) h2 h3
theorem isb_new {o : Option Nat} (I : IsB c (k + 1) n o) (hk : k < n) (ok : okBt c k) (h : ∀ b, o = some b → kyN c b ≤ kyN c k) : IsB c k n (some k) := by
  refine ⟨⟨Nat.le_refl _, hk, ok⟩, fun i h1 h2 h3 => ?_⟩
  by_cases e : i = k
  · subst e; exact ⟨Nat.le_refl _, fun z => absurd z (Nat.lt_irrefl _)⟩
  · cases o with
    | none => exact absurd h3 (I i (by omega) h2)
    | some b =>
      have h4 := (I.2 i (by omega) h2 h3).1
      have h5 := h b rfl
      exact ⟨by omega, fun z => by omega⟩
end KEYS
theorem best_v {c : xCo} {n : Nat} (h : n ≤ 8) (o : Option Nat) (I : IsB c 0 n o) (e : bestF c n = o) : lBestTub c n = bvO o := by
  unfold lBestTub
  rw [e]
  cases o with
  | none => rfl
  | some b =>
    have hb := I.1.2.1
    show (if 0 ≤ nI b then nI b else -13) = nI b
    exact if_pos (nI_pos' (by omega))
/-- hours of heating, both ways -/
theorem heat_f : ∀ z, z < 3 → ∀ t, t < 51 → lHA (nI (z + 1)) (nI (t + 10)) = nI (hiF (nI (z + 1)) 60 (nI (t + 10)) 0) ∧ ¬ nI (t + 10) + nI (hiF (nI (z + 1)) 60 (nI (t + 10)) 0) * (12 / nI (z + 1)) < 38 ∧ (¬ nI (hiF (nI (z + 1)) 60 (nI (t + 10)) 0) ≤ 0 → nI (t + 10) + (nI (hiF (nI (z + 1)) 60 (nI (t + 10)) 0) - 1) * (12 / nI (z + 1)) < 38) := by decide +kernel
theorem pred_lt (s : Nat) (h : s < 1000) : nI s - 1 < nI s := by
  cases s with
  | zero => decide
  | succ s => rw [nI_pred]; exact nI_lt (Nat.lt_succ_self _) (by omega)
set_option maxRecDepth 100000 in
set_option maxHeartbeats 4000000 in
theorem be_a {E : xE} {Po : xPo} {w0 w : xW} {k n : Nat} {x j s : Nat} {h : xHi} {v1 : Int32} (hs : s < 8) (kx : WF M_L_best E Po w0 71 [some (.ref x), some (.int v1), some (.int (nI j)), some (.int ((h.1 0).2.1 j 2)), some (.int (nI s)), some (.int (duF ((h.1 0).2.1 j 2) (8 - s))), some (.int (nI s - 1))] [] w k n) : ∀ (z : Nat) (hz : s + z ≤ 8), WF M_L_best E Po w0 39 [some (.ref x), some (.int v1), some (.int (nI j)), some (.int ((h.1 0).2.1 j 2)), some (.int (nI s)), some (.int (duF ((h.1 0).2.1 j 2) (8 - (s + z)))), some (.int (nI (s + z) - 1))] [] w k n := by
  intro z
  induction z with
  | zero =>
    intro hz
    refine r_iload (q := 41) dL_best_39 rfl rfl ?_
    refine r_iload (q := 43) dL_best_41 rfl rfl ?_
    refine r_icmp_lt (q := 71) (q2 := 46) dL_best_43 (by decide) rfl (fun _ => ?_) (fun h9 => absurd (show nI (s + 0) - 1 < nI s by rw [Nat.add_zero]; exact pred_lt s (by omega)) h9)
    exact kx
  | succ z ih =>
    intro hz
    have e1 : nI (s + (z + 1)) - 1 = nI (s + z) := nI_pred (s + z)
    have e2 : 8 - (s + z) = (8 - (s + (z + 1))) + 1 := by omega
    have e3 : 7 - (8 - (s + (z + 1))) = s + z := by omega
    have i2 := ih (by omega)
    have hd : duF ((h.1 0).2.1 j 2) (8 - (s + z)) = if (h.1 0).2.1 j 2 >>> (nI (s + z) &&& 31) &&& 1 = 1 then nI (s + z) else duF ((h.1 0).2.1 j 2) (8 - (s + (z + 1))) := by
      rw [e2]
      show (if (h.1 0).2.1 j 2 >>> (nI (7 - (8 - (s + (z + 1)))) &&& 31) &&& 1 = 1 then nI (7 - (8 - (s + (z + 1)))) else _) = _
      rw [e3]
    rw [hd] at i2
    rw [e1]
    refine r_iload (q := 41) dL_best_39 rfl rfl ?_
    refine r_iload (q := 43) dL_best_41 rfl rfl ?_
    refine r_icmp_lt (q := 71) (q2 := 46) dL_best_43 (by decide) rfl (fun h9 => absurd h9 (nI_nlt (b := s) (a := s + z) (by omega) (by omega))) (fun _ => ?_)
    refine r_iload_n (q := 47) dL_best_46 rfl rfl rfl ?_
    refine r_iload (q := 49) dL_best_47 rfl rfl ?_
    refine r_ishr (q := 50) dL_best_49 rfl ?_
    refine r_iconst (q := 51) (v := 1) dL_best_50 rfl rfl ?_
    refine r_iand (q := 52) dL_best_51 rfl ?_
    refine r_iconst (q := 53) (v := 1) dL_best_52 rfl rfl ?_
    refine r_icmp_ne (q := 61) (q2 := 56) dL_best_53 (by decide) rfl (fun hb => ?_) (fun hb => ?_)
    · rw [if_neg hb] at i2
      refine r_iload (q := 63) dL_best_61 rfl rfl ?_
      refine r_istore (q := 65) dL_best_63 (Nat.le_of_ble_eq_true rfl) (xone_of rfl) rfl ?_
      refine r_iinc (q := 68) dL_best_65 rfl (Nat.le_of_ble_eq_true rfl) (xone_of rfl) rfl ?_
      rw [i32_m1]
      refine r_goto (q := 39) dL_best_68 (by decide) ?_
      exact i2
    · rw [if_pos hb] at i2
      refine r_iload (q := 58) dL_best_56 rfl rfl ?_
      refine r_goto (q := 63) dL_best_58 (by decide) ?_
      refine r_istore (q := 65) dL_best_63 (Nat.le_of_ble_eq_true rfl) (xone_of rfl) rfl ?_
      refine r_iinc (q := 68) dL_best_65 rfl (Nat.le_of_ble_eq_true rfl) (xone_of rfl) rfl ?_
      rw [i32_m1]
      refine r_goto (q := 39) dL_best_68 (by decide) ?_
      exact i2
set_option maxRecDepth 100000 in
set_option maxHeartbeats 4000000 in
theorem be_b {E : xE} {Po : xPo} {w0 w9 : xW} {x K : Nat} {h : xHi} (J : J9 K (h.1 0)) {v1 : Int32} {j A B9 : Nat} (hj : j < n1 (h.1 0)) (hA : A + 8 ≤ 900) (hB : B9 + 48 ≤ 5900) (kx : ∀ (u : xW) (k n : Nat) (o5 o6 : Option Value), HI E u x h → FX w9 u x h h → k ≤ A + 8 → n ≤ B9 + 48 → WF M_L_best E Po w0 91 [some (.ref x), some (.int v1), some (.int (nI j)), some (.int ((h.1 0).2.1 j 2)), some (.int (nI 0 - 1)), o5, o6] [] u k n) : ∀ (z : Nat) (w : xW) (k n : Nat) (o5 o6 : Option Value) (hz : z ≤ 8) (H : HI E w x h) (X : FX w9 w x h h) (hk : k ≤ A + (8 - z)) (hn : n ≤ B9 + 6 * (8 - z)), WF M_L_best E Po w0 26 [some (.ref x), some (.int v1), some (.int (nI j)), some (.int ((h.1 0).2.1 j 2)), some (.int (nI z - 1)), o5, o6] [] w k n := by
  intro z
  induction z with
  | zero =>
    intro w k n o5 o6 hz H X hk hn
    refine r_iload (q := 28) dL_best_26 rfl rfl ?_
    refine r_if_lt (q := 91) (q2 := 31) dL_best_28 (by decide) rfl (fun _ => ?_) (fun h9 => absurd (show nI 0 - 1 < 0 by decide) h9)
    exact kx _ (k) (n) _ _ H X (by omega) (by omega)
  | succ z ih =>
    intro w k n o5 o6 hz H X hk hn
    rw [nI_pred z]
    refine r_iload (q := 28) dL_best_26 rfl rfl ?_
    refine r_if_lt (q := 91) (q2 := 31) dL_best_28 (by decide) rfl (fun h9 => absurd h9 (nI_pos (by omega))) (fun _ => ?_)
    refine r_bipush (q := 33) (v := (-13)) dL_best_31 (by decide) rfl ?_
    refine r_istore (q := 35) dL_best_33 (Nat.le_of_ble_eq_true rfl) (xone_of rfl) rfl ?_
    refine r_bipush (q := 37) (v := 7) dL_best_35 (by decide) rfl ?_
    refine r_istore (q := 39) dL_best_37 (Nat.le_of_ble_eq_true rfl) (xone_of rfl) rfl ?_
    have hz8 : 8 = z + (8 - z) := by omega
    have key := be_a (E := E) (Po := Po) (w0 := w0) (w := w) (k := k) (n := n) (x := x) (j := j) (s := z) (h := h) (v1 := v1) (by omega) ?_ (8 - z) (by omega)
    · rw [← hz8] at key
      exact key
    · refine r_aload_n (q := 72) dL_best_71 rfl rfl rfl ?_
      refine r_iload_n (q := 73) dL_best_72 rfl rfl rfl ?_
      refine r_iload (q := 75) dL_best_73 rfl rfl ?_
      refine r_callSH (q := 78) (k2 := k + 1) (n2 := n + 6) (As := [_, _, _]) dL_best_75 s_L_best_246 rfl rfl (Nat.le_of_ble_eq_true rfl) rfl rfl rfl (show k + 1 ≤ 1000 by omega) (show n + 6 ≤ 6000 by omega) ⟨(show k + 1 ≤ 1000 by omega), (show n + 6 ≤ 6000 by omega)⟩ rfl ?_
      refine la_torn H (fun u1 H1 F1 => ?_)
      show WF _ E Po _ _ _ _ _ _ _
      have X1 := X.tr F1
      rw [torn_du J hj (show z < 8 by omega)]
      refine r_iload (q := 80) dL_best_78 rfl rfl ?_
      refine r_icmp_eq (q := 85) (q2 := 83) dL_best_80 (by decide) rfl (fun _ => ?_) (fun h9 => absurd rfl h9)
      refine r_iinc (q := 88) dL_best_85 rfl (Nat.le_of_ble_eq_true rfl) (xone_of rfl) rfl ?_
      rw [i32_m1]
      refine r_goto (q := 26) dL_best_88 (by decide) ?_
      exact ih _ (k + 1) (n + 6) _ _ (by omega) H1 X1 (by omega) (by omega)
set_option maxRecDepth 100000 in
set_option maxHeartbeats 4000000 in
theorem be_c {E : xE} {Po : xPo} {w0 w9 w : xW} {x K k n j A B9 : Nat} {h : xHi} (J : J9 K (h.1 0)) {o : Option Nat} {v v1 : Int32} {o3 o4 o5 o6 : Option Value} (ev : v = bvO o) (I : IsB (h.1 0) j (n1 (h.1 0)) o) (H : HI E w x h) (X : FX w9 w x h h) (hk : k ≤ A + 15) (hn : n ≤ B9 + 90) (kx : ∀ (u : xW) (k n : Nat) (o : Option Nat) (o3 o4 o5 o6 : Option Value), IsB (h.1 0) j (n1 (h.1 0)) o → HI E u x h → FX w9 u x h h → k ≤ A + 15 → n ≤ B9 + 90 → WF M_L_best E Po w0 11 [some (.ref x), some (.int (bvO o)), some (.int (nI j - 1)), o3, o4, o5, o6] [] u k n) : WF M_L_best E Po w0 164 [some (.ref x), some (.int v1), some (.int (nI j)), o3, o4, o5, o6] [.int v] w k n := by
  subst ev
  refine r_istore_n (q := 165) dL_best_164 rfl (Nat.le_of_ble_eq_true rfl) (xone_of rfl) rfl ?_
  refine r_iinc (q := 168) dL_best_165 rfl (Nat.le_of_ble_eq_true rfl) (xone_of rfl) rfl ?_
  rw [i32_m1]
  refine r_goto (q := 11) dL_best_168 (by decide) ?_
  exact kx _ (k) (n) _ _ _ _ _ I H X (by omega) (by omega)
set_option maxRecDepth 100000 in
set_option maxHeartbeats 4000000 in
theorem be_d {E : xE} {Po : xPo} {w0 w9 w : xW} {x K k n j A B9 : Nat} {h : xHi} (J : J9 K (h.1 0)) {o : Option Nat} {v : Int32} {o5 o6 : Option Value} (ev : v = msO (h.1 0) o) (hk0 : ∀ b, o = some b → kyN (h.1 0) b < 4000) (hky : kyN (h.1 0) j < 4000) (B : BH (h.1 0)) (hj : j < n1 (h.1 0)) (hA : A ≤ 150) (hB : B9 ≤ 900) (I : IsB (h.1 0) (j + 1) (n1 (h.1 0)) o) (H : HI E w x h) (X : FX w9 w x h h) (hk : k ≤ A + 13) (hn : n ≤ B9 + 78) (kx : ∀ (u : xW) (k n : Nat) (o : Option Nat) (o3 o4 o5 o6 : Option Value), IsB (h.1 0) j (n1 (h.1 0)) o → HI E u x h → FX w9 u x h h → k ≤ A + 15 → n ≤ B9 + 90 → WF M_L_best E Po w0 11 [some (.ref x), some (.int (bvO o)), some (.int (nI j - 1)), o3, o4, o5, o6] [] u k n) : WF M_L_best E Po w0 137 [some (.ref x), some (.int (bvO o)), some (.int (nI j)), some (.int ((h.1 0).2.1 j 2)), some (.int (nI (kyN (h.1 0) j))), o5, o6] [.int v] w k n := by
  subst ev
  refine r_istore (q := 139) dL_best_137 (Nat.le_of_ble_eq_true rfl) (xone_of rfl) rfl ?_
  refine r_aload_n (q := 140) dL_best_139 rfl rfl rfl ?_
  refine r_iload_n (q := 141) dL_best_140 rfl rfl rfl ?_
  refine r_iconst (q := 142) (v := 1) dL_best_141 rfl rfl ?_
  refine r_callSH (q := 145) (k2 := k + 1) (n2 := n + 6) (As := [_, _, _]) dL_best_142 s_L_best_187 rfl rfl (Nat.le_of_ble_eq_true rfl) rfl rfl rfl (show k + 1 ≤ 1000 by omega) (show n + 6 ≤ 6000 by omega) ⟨(show k + 1 ≤ 1000 by omega), (show n + 6 ≤ 6000 by omega)⟩ rfl ?_
  refine la_tubOf H (fun u1 H1 F1 => ?_)
  show WF _ E Po _ _ _ _ _ _ _
  have X1 := X.tr F1
  rw [at_1 J hj]
  refine r_if_ge (q := 163) (q2 := 148) dL_best_145 (by decide) rfl (fun ht => ?_) (fun ht => ?_)
  · refine r_iload_n (q := 164) dL_best_163 rfl rfl rfl ?_
    first
      | exact be_c (k := k + 1) (n := n + 6) (o := o) J rfl (isb_no I (fun q => absurd (show (0 : Int32) ≤ (h.1 0).2.1 j 1 from ht) (Int32.not_le.mpr q.1))) H1 X1 (by omega) (by omega) kx
      | exact be_c (k := k + 1) (n := n + 6) (o := o) J rfl (isb_no I (fun q => hs q.2)) H1 X1 (by omega) (by omega) kx
      | exact be_c (k := k + 1) (n := n + 6) (o := o) J rfl (by
          cases o with
          | none => exact absurd hl (fun q => nI_pos (by omega) (Int32.lt_trans q (show (-1 : Int32) < 0 by decide)))
          | some b => exact isb_lt I ((nI_ltI (by omega) (by have := hk0 b rfl; omega)).mp hl)) H1 X1 (by omega) (by omega) kx
      | exact be_c (k := k + 1) (n := n + 6) (o := some j) J rfl (isb_new I hj ⟨Int32.not_le.mp ht, hs⟩ (fun b e => by
          subst e
          have h9 : ¬ nI (kyN (h.1 0) j) < nI (kyN (h.1 0) b) := hl
          have h8 := hk0 b rfl
          exact Nat.not_lt.mp (fun q => h9 (nI_lt q (by omega))))) H1 X1 (by omega) (by omega) kx
  · refine r_iload_n (q := 149) dL_best_148 rfl rfl rfl ?_
    refine r_if_ne (q := 163) (q2 := 152) dL_best_149 (by decide) rfl (fun hs => ?_) (fun hs => ?_)
    · refine r_iload_n (q := 164) dL_best_163 rfl rfl rfl ?_
      first
        | exact be_c (k := k + 1) (n := n + 6) (o := o) J rfl (isb_no I (fun q => absurd (show (0 : Int32) ≤ (h.1 0).2.1 j 1 from ht) (Int32.not_le.mpr q.1))) H1 X1 (by omega) (by omega) kx
        | exact be_c (k := k + 1) (n := n + 6) (o := o) J rfl (isb_no I (fun q => hs q.2)) H1 X1 (by omega) (by omega) kx
        | exact be_c (k := k + 1) (n := n + 6) (o := o) J rfl (by
            cases o with
            | none => exact absurd hl (fun q => nI_pos (by omega) (Int32.lt_trans q (show (-1 : Int32) < 0 by decide)))
            | some b => exact isb_lt I ((nI_ltI (by omega) (by have := hk0 b rfl; omega)).mp hl)) H1 X1 (by omega) (by omega) kx
        | exact be_c (k := k + 1) (n := n + 6) (o := some j) J rfl (isb_new I hj ⟨Int32.not_le.mp ht, hs⟩ (fun b e => by
            subst e
            have h9 : ¬ nI (kyN (h.1 0) j) < nI (kyN (h.1 0) b) := hl
            have h8 := hk0 b rfl
            exact Nat.not_lt.mp (fun q => h9 (nI_lt q (by omega))))) H1 X1 (by omega) (by omega) kx
    · refine r_iload (q := 154) dL_best_152 rfl rfl ?_
      refine r_iload (q := 156) dL_best_154 rfl rfl ?_
      refine r_icmp_lt (q := 163) (q2 := 159) dL_best_156 (by decide) rfl (fun hl => ?_) (fun hl => ?_)
      · refine r_iload_n (q := 164) dL_best_163 rfl rfl rfl ?_
        first
          | exact be_c (k := k + 1) (n := n + 6) (o := o) J rfl (isb_no I (fun q => absurd (show (0 : Int32) ≤ (h.1 0).2.1 j 1 from ht) (Int32.not_le.mpr q.1))) H1 X1 (by omega) (by omega) kx
          | exact be_c (k := k + 1) (n := n + 6) (o := o) J rfl (isb_no I (fun q => hs q.2)) H1 X1 (by omega) (by omega) kx
          | exact be_c (k := k + 1) (n := n + 6) (o := o) J rfl (by
              cases o with
              | none => exact absurd hl (fun q => nI_pos (by omega) (Int32.lt_trans q (show (-1 : Int32) < 0 by decide)))
              | some b => exact isb_lt I ((nI_ltI (by omega) (by have := hk0 b rfl; omega)).mp hl)) H1 X1 (by omega) (by omega) kx
          | exact be_c (k := k + 1) (n := n + 6) (o := some j) J rfl (isb_new I hj ⟨Int32.not_le.mp ht, hs⟩ (fun b e => by
              subst e
              have h9 : ¬ nI (kyN (h.1 0) j) < nI (kyN (h.1 0) b) := hl
              have h8 := hk0 b rfl
              exact Nat.not_lt.mp (fun q => h9 (nI_lt q (by omega))))) H1 X1 (by omega) (by omega) kx
      · refine r_iload_n (q := 160) dL_best_159 rfl rfl rfl ?_
        refine r_goto (q := 164) dL_best_160 (by decide) ?_
        first
          | exact be_c (k := k + 1) (n := n + 6) (o := o) J rfl (isb_no I (fun q => absurd (show (0 : Int32) ≤ (h.1 0).2.1 j 1 from ht) (Int32.not_le.mpr q.1))) H1 X1 (by omega) (by omega) kx
          | exact be_c (k := k + 1) (n := n + 6) (o := o) J rfl (isb_no I (fun q => hs q.2)) H1 X1 (by omega) (by omega) kx
          | exact be_c (k := k + 1) (n := n + 6) (o := o) J rfl (by
              cases o with
              | none => exact absurd hl (fun q => nI_pos (by omega) (Int32.lt_trans q (show (-1 : Int32) < 0 by decide)))
              | some b => exact isb_lt I ((nI_ltI (by omega) (by have := hk0 b rfl; omega)).mp hl)) H1 X1 (by omega) (by omega) kx
          | exact be_c (k := k + 1) (n := n + 6) (o := some j) J rfl (isb_new I hj ⟨Int32.not_le.mp ht, hs⟩ (fun b e => by
              subst e
              have h9 : ¬ nI (kyN (h.1 0) j) < nI (kyN (h.1 0) b) := hl
              have h8 := hk0 b rfl
              exact Nat.not_lt.mp (fun q => h9 (nI_lt q (by omega))))) H1 X1 (by omega) (by omega) kx
set_option maxRecDepth 100000 in
set_option maxHeartbeats 4000000 in
theorem be_e {E : xE} {Po : xPo} {w0 w9 w : xW} {x K k n j A B9 : Nat} {h : xHi} (J : J9 K (h.1 0)) {o : Option Nat} {o4 o5 o6 : Option Value} (B : BH (h.1 0)) (hj : j < n1 (h.1 0)) (hA : A ≤ 150) (hB : B9 ≤ 900) (I : IsB (h.1 0) (j + 1) (n1 (h.1 0)) o) (H : HI E w x h) (X : FX w9 w x h h) (hk : k ≤ A + 9) (hn : n ≤ B9 + 54) (kx : ∀ (u : xW) (k n : Nat) (o : Option Nat) (o3 o4 o5 o6 : Option Value), IsB (h.1 0) j (n1 (h.1 0)) o → HI E u x h → FX w9 u x h h → k ≤ A + 15 → n ≤ B9 + 90 → WF M_L_best E Po w0 11 [some (.ref x), some (.int (bvO o)), some (.int (nI j - 1)), o3, o4, o5, o6] [] u k n) : WF M_L_best E Po w0 91 [some (.ref x), some (.int (bvO o)), some (.int (nI j)), some (.int ((h.1 0).2.1 j 2)), o4, o5, o6] [] w k n := by
  have n8 := J.1.1.2
  obtain ⟨ek, hky⟩ := ky_v B hj
  refine r_sipush (q := 94) (v := 1000) dL_best_91 (by decide) rfl ?_
  refine r_aload_n (q := 95) dL_best_94 rfl rfl rfl ?_
  refine r_iload_n (q := 96) dL_best_95 rfl rfl rfl ?_
  refine r_iconst (q := 97) (v := 0) dL_best_96 rfl rfl ?_
  refine r_callSH (q := 100) (k2 := k + 1) (n2 := n + 6) (As := [_, _, _]) dL_best_97 s_L_best_187 rfl rfl (Nat.le_of_ble_eq_true rfl) rfl rfl rfl (show k + 1 ≤ 1000 by omega) (show n + 6 ≤ 6000 by omega) ⟨(show k + 1 ≤ 1000 by omega), (show n + 6 ≤ 6000 by omega)⟩ rfl ?_
  refine la_tubOf H (fun u1 H1 F1 => ?_)
  show WF _ E Po _ _ _ _ _ _ _
  have X1 := X.tr F1
  rw [at_0 J hj]
  refine r_imul (q := 101) dL_best_100 rfl ?_
  refine r_aload_n (q := 102) dL_best_101 rfl rfl rfl ?_
  refine r_iload_n (q := 103) dL_best_102 rfl rfl rfl ?_
  refine r_bipush (q := 105) (v := 6) dL_best_103 (by decide) rfl ?_
  refine r_callSH (q := 108) (k2 := k + 2) (n2 := n + 12) (As := [_, _, _]) dL_best_105 s_L_best_187 rfl rfl (Nat.le_of_ble_eq_true rfl) rfl rfl rfl (show k + 2 ≤ 1000 by omega) (show n + 12 ≤ 6000 by omega) ⟨(show k + 2 ≤ 1000 by omega), (show n + 12 ≤ 6000 by omega)⟩ rfl ?_
  refine la_tubOf H1 (fun u2 H2 F2 => ?_)
  show WF _ E Po _ _ _ _ _ _ _
  have X2 := X1.tr F2
  rw [at_6 J hj]
  refine r_isub (q := 109) dL_best_108 rfl ?_
  rw [ek]
  refine r_istore (q := 111) dL_best_109 (Nat.le_of_ble_eq_true rfl) (xone_of rfl) rfl ?_
  cases o with
  | none =>
    refine r_iload_n (q := 112) dL_best_111 rfl rfl rfl ?_
    refine r_if_ge (q := 119) (q2 := 115) dL_best_112 (by decide) rfl (fun h9 => absurd h9 (show ¬ (0 : Int32) ≤ -13 by decide)) (fun _ => ?_)
    refine r_iconst (q := 116) (v := (-1)) dL_best_115 rfl rfl ?_
    refine r_goto (q := 137) dL_best_116 (by decide) ?_
    exact be_d (k := k + 2) (n := n + 12) (o := none) J rfl (fun b e => nomatch e) hky B hj hA hB I H2 X2 (by omega) (by omega) kx
  | some b =>
    have hb1 := I.1.2.1
    obtain ⟨eb, hkb⟩ := ky_v B hb1
    refine r_iload_n (q := 112) dL_best_111 rfl rfl rfl ?_
    refine r_if_ge (q := 119) (q2 := 115) dL_best_112 (by decide) rfl (fun _ => ?_) (fun h9 => absurd (show (0 : Int32) ≤ nI b from nI_pos' (by omega)) h9)
    refine r_sipush (q := 122) (v := 1000) dL_best_119 (by decide) rfl ?_
    refine r_aload_n (q := 123) dL_best_122 rfl rfl rfl ?_
    refine r_iload_n (q := 124) dL_best_123 rfl rfl rfl ?_
    refine r_iconst (q := 125) (v := 0) dL_best_124 rfl rfl ?_
    refine r_callSH (q := 128) (k2 := k + 3) (n2 := n + 18) (As := [_, _, _]) dL_best_125 s_L_best_187 rfl rfl (Nat.le_of_ble_eq_true rfl) rfl rfl rfl (show k + 3 ≤ 1000 by omega) (show n + 18 ≤ 6000 by omega) ⟨(show k + 3 ≤ 1000 by omega), (show n + 18 ≤ 6000 by omega)⟩ rfl ?_
    refine la_tubOf H2 (fun u3 H3 F3 => ?_)
    show WF _ E Po _ _ _ _ _ _ _
    have X3 := X2.tr F3
    rw [show lTubOf (h.1 0) (bvO (some b)) 0 = (h.1 0).2.1 b 0 from at_0 J hb1]
    refine r_imul (q := 129) dL_best_128 rfl ?_
    refine r_aload_n (q := 130) dL_best_129 rfl rfl rfl ?_
    refine r_iload_n (q := 131) dL_best_130 rfl rfl rfl ?_
    refine r_bipush (q := 133) (v := 6) dL_best_131 (by decide) rfl ?_
    refine r_callSH (q := 136) (k2 := k + 4) (n2 := n + 24) (As := [_, _, _]) dL_best_133 s_L_best_187 rfl rfl (Nat.le_of_ble_eq_true rfl) rfl rfl rfl (show k + 4 ≤ 1000 by omega) (show n + 24 ≤ 6000 by omega) ⟨(show k + 4 ≤ 1000 by omega), (show n + 24 ≤ 6000 by omega)⟩ rfl ?_
    refine la_tubOf H3 (fun u4 H4 F4 => ?_)
    show WF _ E Po _ _ _ _ _ _ _
    have X4 := X3.tr F4
    rw [show lTubOf (h.1 0) (bvO (some b)) 6 = (h.1 0).2.1 b 6 from at_6 J hb1]
    refine r_isub (q := 137) dL_best_136 rfl ?_
    rw [eb]
    exact be_d (k := k + 4) (n := n + 24) (o := some b) J rfl (fun b9 e => by cases e; exact hkb) hky B hj hA hB I H4 X4 (by omega) (by omega) kx
set_option maxRecDepth 100000 in
set_option maxHeartbeats 4000000 in
theorem be_f {E : xE} {Po : xPo} {w0 w9 : xW} {x K : Nat} {h : xHi} (J : J9 K (h.1 0)) (B : BH (h.1 0)) (kx : ∀ (u : xW) (k n : Nat) (o : Option Nat) (o3 o4 o5 o6 : Option Value), IsB (h.1 0) 0 (n1 (h.1 0)) o → HI E u x h → FX w9 u x h h → k ≤ 140 → n ≤ 840 → WF M_L_best E Po w0 171 [some (.ref x), some (.int (bvO o)), some (.int (nI 0 - 1)), o3, o4, o5, o6] [] u k n) : ∀ (z : Nat) (w : xW) (k n : Nat) (o : Option Nat) (o3 o4 o5 o6 : Option Value) (hz : z ≤ n1 (h.1 0)) (I : IsB (h.1 0) z (n1 (h.1 0)) o) (H : HI E w x h) (X : FX w9 w x h h) (hk : k ≤ 1 + 15 * (n1 (h.1 0) - z)) (hn : n ≤ 6 + 90 * (n1 (h.1 0) - z)), WF M_L_best E Po w0 11 [some (.ref x), some (.int (bvO o)), some (.int (nI z - 1)), o3, o4, o5, o6] [] w k n := by
  intro z
  induction z with
  | zero =>
    intro w k n o o3 o4 o5 o6 hz I H X hk hn
    have n8 := J.1.1.2
    refine r_iload_n (q := 12) dL_best_11 rfl rfl rfl ?_
    refine r_if_lt (q := 171) (q2 := 15) dL_best_12 (by decide) rfl (fun _ => ?_) (fun h9 => absurd (show nI 0 - 1 < 0 by decide) h9)
    exact kx _ (k) (n) _ _ _ _ _ I H X (by omega) (by omega)
  | succ z ih =>
    intro w k n o o3 o4 o5 o6 hz I H X hk hn
    have n8 := J.1.1.2
    have hj : z < n1 (h.1 0) := by omega
    rw [nI_pred z]
    refine r_iload_n (q := 12) dL_best_11 rfl rfl rfl ?_
    refine r_if_lt (q := 171) (q2 := 15) dL_best_12 (by decide) rfl (fun h9 => absurd h9 (nI_pos (by omega))) (fun _ => ?_)
    refine r_aload_n (q := 16) dL_best_15 rfl rfl rfl ?_
    refine r_iload_n (q := 17) dL_best_16 rfl rfl rfl ?_
    refine r_iconst (q := 18) (v := 2) dL_best_17 rfl rfl ?_
    refine r_callSH (q := 21) (k2 := k + 1) (n2 := n + 6) (As := [_, _, _]) dL_best_18 s_L_best_187 rfl rfl (Nat.le_of_ble_eq_true rfl) rfl rfl rfl (show k + 1 ≤ 1000 by omega) (show n + 6 ≤ 6000 by omega) ⟨(show k + 1 ≤ 1000 by omega), (show n + 6 ≤ 6000 by omega)⟩ rfl ?_
    refine la_tubOf H (fun u1 H1 F1 => ?_)
    show WF _ E Po _ _ _ _ _ _ _
    have X1 := X.tr F1
    rw [at_2 J hj]
    refine r_istore_n (q := 22) dL_best_21 rfl (Nat.le_of_ble_eq_true rfl) (xone_of rfl) rfl ?_
    refine r_bipush (q := 24) (v := 7) dL_best_22 (by decide) rfl ?_
    refine r_istore (q := 26) dL_best_24 (Nat.le_of_ble_eq_true rfl) (xone_of rfl) rfl ?_
    refine be_b J hj (A := k + 1) (B9 := n + 6) (by omega) (by omega) (fun u k2 n2 o5 o6 H X hk2 hn2 => ?_) 8 _ (k + 1) (n + 6) _ _ (Nat.le_refl _) H1 X1 (by omega) (by omega)
    exact be_e (A := k) (B9 := n) J B hj (by omega) (by omega) I H X (by omega) (by omega) (fun u k3 n3 o o3 o4 o5 o6 I H X hk3 hn3 => ih u k3 n3 o o3 o4 o5 o6 (by omega) I H X (by omega) (by omega))
set_option maxRecDepth 100000 in
set_option maxHeartbeats 4000000 in
theorem be_g {E : xE} {Po : xPo} {w0 w9 : xW} {x : Nat} {h : xHi} {o : Option Nat} {o6 : Option Value} {y A B9 : Nat} (hz : y < 3) (hA : A + 110 ≤ 900) (hB : B9 + 660 ≤ 5900) (kx : ∀ (u : xW) (k n : Nat) (o4 o5 : Option Value), HI E u x h → FX w9 u x h h → k ≤ A + 102 → n ≤ B9 + 612 → WF M_L_best E Po w0 251 [some (.ref x), some (.int (bvO o)), some (.int (nI (y + 1))), some (.int (nI 61)), o4, o5, o6] [] u k n) : ∀ (r t : Nat) (w : xW) (k n : Nat) (o4 o5 : Option Value) (hr : t + r = 51) (H : HI E w x h) (X : FX w9 w x h h) (hk : k ≤ A + 2 * t) (hn : n ≤ B9 + 12 * t), WF M_L_best E Po w0 181 [some (.ref x), some (.int (bvO o)), some (.int (nI (y + 1))), some (.int (nI (t + 10))), o4, o5, o6] [] w k n := by
  intro z
  induction z with
  | zero =>
    intro t w k n o4 o5 hr H X hk hn
    obtain rfl : t = 51 := by omega
    refine r_iload_n (q := 182) dL_best_181 rfl rfl rfl ?_
    refine r_bipush (q := 184) (v := 61) dL_best_182 (by decide) rfl ?_
    refine r_icmp_ge (q := 251) (q2 := 187) dL_best_184 (by decide) rfl (fun _ => ?_) (fun h9 => absurd (show (61 : Int32) ≤ nI (51 + 10) by decide) h9)
    exact kx _ (k) (n) _ _ H X (by omega) (by omega)
  | succ z ih =>
    intro t w k n o4 o5 hr H X hk hn
    obtain ⟨h1, h2, h3⟩ := heat_f y hz t (by omega)
    have hne : ¬ nI (y + 1) = 0 := nI_ne0 (by omega) (by omega)
    have q1 : ¬ (nI (y + 1) < 1 ∨ 3 < nI (y + 1)) := fun q => q.elim (nI_nlt (b := 1) (by omega) (by omega)) (fun q => nI_nlt (a := 3) (b := y + 1) (by omega) (by decide) q)
    have q2 : ¬ (nI (t + 10) < 10 ∨ 60 < nI (t + 10)) := fun q => q.elim (nI_nlt (b := 10) (by omega) (by omega)) (fun q => nI_nlt (a := 60) (b := t + 10) (by omega) (by decide) q)
    refine r_iload_n (q := 182) dL_best_181 rfl rfl rfl ?_
    refine r_bipush (q := 184) (v := 61) dL_best_182 (by decide) rfl ?_
    refine r_icmp_ge (q := 251) (q2 := 187) dL_best_184 (by decide) rfl (fun h9 => absurd h9 (nI_ge (b := 61) (show t + 10 < 61 by omega) (by decide))) (fun _ => ?_)
    refine r_aload_n (q := 188) dL_best_187 rfl rfl rfl ?_
    refine r_iload_n (q := 189) dL_best_188 rfl rfl rfl ?_
    refine r_iload_n (q := 190) dL_best_189 rfl rfl rfl ?_
    refine r_callSH (q := 193) (k2 := k + 1) (n2 := n + 6) (As := [_, _, _]) dL_best_190 s_L_best_248 rfl rfl (Nat.le_of_ble_eq_true rfl) rfl rfl rfl (show k + 1 ≤ 1000 by omega) (show n + 6 ≤ 6000 by omega) ⟨(show k + 1 ≤ 1000 by omega), (show n + 6 ≤ 6000 by omega)⟩ rfl ?_
    refine la_heatsIn H q1 q2 (fun u1 H1 F1 => ?_)
    show WF _ E Po _ _ _ _ _ _ _
    have X1 := X.tr F1
    refine r_istore (q := 195) dL_best_193 (Nat.le_of_ble_eq_true rfl) (xone_of rfl) rfl ?_
    refine r_bipush (q := 197) (v := 12) dL_best_195 (by decide) rfl ?_
    refine r_iload_n (q := 198) dL_best_197 rfl rfl rfl ?_
    refine r_idiv (q := 199) dL_best_198 hne rfl ?_
    refine r_istore (q := 201) dL_best_199 (Nat.le_of_ble_eq_true rfl) (xone_of rfl) rfl ?_
    refine r_iload (q := 203) dL_best_201 rfl rfl ?_
    refine r_aload_n (q := 204) dL_best_203 rfl rfl rfl ?_
    refine r_iload_n (q := 205) dL_best_204 rfl rfl rfl ?_
    refine r_iload_n (q := 206) dL_best_205 rfl rfl rfl ?_
    refine r_callSH (q := 209) (k2 := k + 2) (n2 := n + 12) (As := [_, _, _]) dL_best_206 s_L_best_250 rfl rfl (Nat.le_of_ble_eq_true rfl) rfl rfl rfl (show k + 2 ≤ 1000 by omega) (show n + 12 ≤ 6000 by omega) ⟨(show k + 2 ≤ 1000 by omega), (show n + 12 ≤ 6000 by omega)⟩ rfl ?_
    refine la_heatsAgain H1 q1 q2 (fun u2 H2 F2 => ?_)
    show WF _ E Po _ _ _ _ _ _ _
    have X2 := X1.tr F2
    rw [h1]
    refine r_icmp_ne (q := 243) (q2 := 212) dL_best_209 (by decide) rfl (fun h9 => absurd rfl h9) (fun _ => ?_)
    refine r_iload_n (q := 213) dL_best_212 rfl rfl rfl ?_
    refine r_iload (q := 215) dL_best_213 rfl rfl ?_
    refine r_iload (q := 217) dL_best_215 rfl rfl ?_
    refine r_imul (q := 218) dL_best_217 rfl ?_
    refine r_iadd (q := 219) dL_best_218 rfl ?_
    refine r_bipush (q := 221) (v := 38) dL_best_219 (by decide) rfl ?_
    refine r_icmp_lt (q := 243) (q2 := 224) dL_best_221 (by decide) rfl (fun h9 => absurd h9 h2) (fun _ => ?_)
    refine r_iload (q := 226) dL_best_224 rfl rfl ?_
    refine r_if_le (q := 245) (q2 := 229) dL_best_226 (by decide) rfl (fun h3q => ?_) (fun h3q => ?_)
    · refine r_iinc (q := 248) dL_best_245 rfl (Nat.le_of_ble_eq_true rfl) (xone_of rfl) rfl ?_
      rw [show nI (t + 10) + Int32.ofInt 1 = nI (t + 1 + 10) from (nI_1 (t + 10)).trans (by rw [show t + 10 + 1 = t + 1 + 10 by omega])]
      refine r_goto (q := 181) dL_best_248 (by decide) ?_
      exact ih (t + 1) _ (k + 2) (n + 12) _ _ (by omega) H2 X2 (by omega) (by omega)
    · have h38 := h3 h3q
      refine r_iload_n (q := 230) dL_best_229 rfl rfl rfl ?_
      refine r_iload (q := 232) dL_best_230 rfl rfl ?_
      refine r_iconst (q := 233) (v := 1) dL_best_232 rfl rfl ?_
      refine r_isub (q := 234) dL_best_233 rfl ?_
      refine r_iload (q := 236) dL_best_234 rfl rfl ?_
      refine r_imul (q := 237) dL_best_236 rfl ?_
      refine r_iadd (q := 238) dL_best_237 rfl ?_
      refine r_bipush (q := 240) (v := 38) dL_best_238 (by decide) rfl ?_
      refine r_icmp_lt (q := 245) (q2 := 243) dL_best_240 (by decide) rfl (fun _ => ?_) (fun h9 => absurd h38 h9)
      refine r_iinc (q := 248) dL_best_245 rfl (Nat.le_of_ble_eq_true rfl) (xone_of rfl) rfl ?_
      rw [show nI (t + 10) + Int32.ofInt 1 = nI (t + 1 + 10) from (nI_1 (t + 10)).trans (by rw [show t + 10 + 1 = t + 1 + 10 by omega])]
      refine r_goto (q := 181) dL_best_248 (by decide) ?_
      exact ih (t + 1) _ (k + 2) (n + 12) _ _ (by omega) H2 X2 (by omega) (by omega)
set_option maxRecDepth 100000 in
set_option maxHeartbeats 4000000 in
theorem be_h {E : xE} {Po : xPo} {w0 w9 : xW} {x : Nat} {h : xHi} {o : Option Nat} {o6 : Option Value} (kx : ∀ (u : xW) (k n : Nat) (o3 o4 o5 : Option Value), HI E u x h → FX w9 u x h h → k ≤ 500 → n ≤ 3000 → WF M_L_best E Po w0 257 [some (.ref x), some (.int (bvO o)), some (.int (nI 4)), o3, o4, o5, o6] [] u k n) : ∀ (r z : Nat) (w : xW) (k n : Nat) (o3 o4 o5 : Option Value) (hr : z + r = 3) (H : HI E w x h) (X : FX w9 w x h h) (hk : k ≤ 140 + 110 * z) (hn : n ≤ 840 + 660 * z), WF M_L_best E Po w0 173 [some (.ref x), some (.int (bvO o)), some (.int (nI (z + 1))), o3, o4, o5, o6] [] w k n := by
  intro z
  induction z with
  | zero =>
    intro z w k n o3 o4 o5 hr H X hk hn
    obtain rfl : z = 3 := by omega
    refine r_iload_n (q := 174) dL_best_173 rfl rfl rfl ?_
    refine r_iconst (q := 175) (v := 4) dL_best_174 rfl rfl ?_
    refine r_icmp_ge (q := 257) (q2 := 178) dL_best_175 (by decide) rfl (fun _ => ?_) (fun h9 => absurd (show (4 : Int32) ≤ nI (3 + 1) by decide) h9)
    exact kx _ (k) (n) _ _ _ H X (by omega) (by omega)
  | succ z ih =>
    intro z w k n o3 o4 o5 hr H X hk hn
    refine r_iload_n (q := 174) dL_best_173 rfl rfl rfl ?_
    refine r_iconst (q := 175) (v := 4) dL_best_174 rfl rfl ?_
    refine r_icmp_ge (q := 257) (q2 := 178) dL_best_175 (by decide) rfl (fun h9 => absurd h9 (nI_ge (b := 4) (show z + 1 < 4 by omega) (by decide))) (fun _ => ?_)
    refine r_bipush (q := 180) (v := 10) dL_best_178 (by decide) rfl ?_
    refine r_istore_n (q := 181) dL_best_180 rfl (Nat.le_of_ble_eq_true rfl) (xone_of rfl) rfl ?_
    refine be_g (y := z) (A := k) (B9 := n) (by omega) (by omega) (by omega) (fun u k2 n2 o4 o5 H X hk2 hn2 => ?_) 51 0 _ (k) (n) _ _ rfl H X (by omega) (by omega)
    refine r_iinc (q := 254) dL_best_251 rfl (Nat.le_of_ble_eq_true rfl) (xone_of rfl) rfl ?_
    rw [show nI (z + 1) + Int32.ofInt 1 = nI (z + 1 + 1) from nI_1 (z + 1)]
    refine r_goto (q := 173) dL_best_254 (by decide) ?_
    exact ih (z + 1) _ k2 n2 _ _ _ (by omega) H X (by omega) (by omega)
set_option maxRecDepth 100000 in
set_option maxHeartbeats 4000000 in
theorem ct_L_best {E : xE} {Po : xPo} {w : xW} {x K m : Nat} {h : xHi} (J : J9 K (h.1 0)) (G : GQ m (h.1 0)) (hm : m < 1000) (hK : K < 16000000) (H : HI E w x h) (hp : ∀ u, HI E u x h → FX w u x h h → Po (.inl (some (.int 1))) u) : Ct M_L_best E [.ref x] w Po := by
  refine Ct.of (ws2 := xAll) (L := [some (.ref x), none, none, none, none, none, none]) (by decide +kernel) rfl rfl (List.forall_mem_cons.mpr ⟨rfl, fun _ h => absurd h List.not_mem_nil⟩) (Nat.le_of_ble_eq_true rfl) rfl ?_
  have n8 := J.1.1.2
  have B := bh_of J G hm hK
  have X := FX.id (w := w) (x := x) (h := h)
  refine r_bipush (q := 2) (v := (-13)) dL_best_0 (by decide) rfl ?_
  refine r_istore_n (q := 3) dL_best_2 rfl (Nat.le_of_ble_eq_true rfl) (xone_of rfl) rfl ?_
  refine r_aload_n (q := 4) dL_best_3 rfl rfl rfl ?_
  refine r_iconst (q := 5) (v := 1) dL_best_4 rfl rfl ?_
  refine r_callV (q := 8) (ci := 11) (k2 := 0 + 1) (n2 := 0 + 6) (As := [_]) dL_best_5 s_L_best_184 H.1.1 rfl rfl rfl (Nat.le_of_ble_eq_true rfl) rfl rfl rfl (show 0 + 1 ≤ 1000 by omega) (show 0 + 6 ≤ 6000 by omega) ⟨(show 0 + 1 ≤ 1000 by omega), (show 0 + 6 ≤ 6000 by omega)⟩ rfl ?_
  refine la_number H J.inC (by decide) (by decide) (by decide) (by decide) ?_
  show WF _ E Po _ _ _ _ _ _ _
  rw [show stToldS (h.1 0) 1 = nI (n1 (h.1 0)) from J.1.1.1]
  refine r_iconst (q := 9) (v := 1) dL_best_8 rfl rfl ?_
  refine r_isub (q := 10) dL_best_9 rfl ?_
  refine r_istore_n (q := 11) dL_best_10 rfl (Nat.le_of_ble_eq_true rfl) (xone_of rfl) rfl ?_
  refine be_f J B (fun u k n o o3 o4 o5 o6 I H X hk hn => ?_) (n1 (h.1 0)) w (0 + 1) (0 + 6) none none none none none (Nat.le_refl _) (fun i h1 h2 => by omega) H FX.id (by omega) (by omega)
  refine r_iconst (q := 172) (v := 1) dL_best_171 rfl rfl ?_
  refine r_istore_n (q := 173) dL_best_172 rfl (Nat.le_of_ble_eq_true rfl) (xone_of rfl) rfl ?_
  refine be_h (fun u k n o3 o4 o5 H X hk hn => ?_) 3 0 _ (k) (n) _ _ _ rfl H X (by omega) (by omega)
  refine r_aload_n (q := 258) dL_best_257 rfl rfl rfl ?_
  refine r_callSH (q := 261) (k2 := k + 1) (n2 := n + 6) (As := [_]) dL_best_258 s_L_best_252 rfl rfl (Nat.le_of_ble_eq_true rfl) rfl rfl rfl (show k + 1 ≤ 1000 by omega) (show n + 6 ≤ 6000 by omega) ⟨(show k + 1 ≤ 1000 by omega), (show n + 6 ≤ 6000 by omega)⟩ rfl ?_
  refine la_bestTub H n8 J.1.1.1 (fun u1 H1 F1 => ?_)
  show WF _ E Po _ _ _ _ _ _ _
  have X1 := X.tr F1
  rw [best_v n8 o I (IsB.one (bst_is B _ (Nat.le_refl _)) I)]
  refine r_iload_n (q := 262) dL_best_261 rfl rfl rfl ?_
  refine r_icmp_ne (q := 269) (q2 := 265) dL_best_262 (by decide) rfl (fun h9 => absurd rfl h9) (fun _ => ?_)
  refine r_iconst (q := 266) (v := 1) dL_best_265 rfl rfl ?_
  refine r_goto (q := 270) dL_best_266 (by decide) ?_
  refine r_zret dL_best_270 rfl (by decide) (show k + 1 ≤ 1000 by omega) (show n + 6 ≤ 6000 by omega) ?_
  exact hp _ H1 X1
