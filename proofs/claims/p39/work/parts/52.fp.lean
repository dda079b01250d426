/-! ===== 52.fp: no NaN comes of what the hire divides ===== -/
/-- a datum of 32 bits that is no NaN, and fits -/
def okD (d : FP.Core.Datum) : Prop := match d with
  | .nan => False
  | .inf _ => True
  | .fin _ c q => c < 16777216 ∧ q ≤ 104
theorem okD_bound {s : Bool} {c : Nat} {q : Int} (h : c < 16777216) : okD (FP.Core.bound FP.Core.b32 s c q) := by
  unfold FP.Core.bound
  have e : FP.Core.Fmt.qmax FP.Core.b32 = 104 := by decide
  rw [e]
  by_cases h1 : q ≤ 104
  · rw [if_pos h1]; exact ⟨h, h1⟩
  · rw [if_neg h1]; exact trivial
theorem okD_settle {s : Bool} {c : Nat} {q : Int} : okD (FP.Core.settle FP.Core.b32 s c q) := by
  unfold FP.Core.settle
  have e : (2 : Nat) ^ FP.Core.Fmt.p FP.Core.b32 = 16777216 := by decide
  rw [e]
  by_cases h1 : c < 16777216
  · rw [if_pos h1]; exact okD_bound h1
  · rw [if_neg h1]; exact okD_bound (by decide)
theorem okD_rr {s : Bool} {num den : Nat} {e : Int} : okD (FP.Core.roundRatio FP.Core.b32 s num den e) := by
  unfold FP.Core.roundRatio
  by_cases h : num = 0
  · rw [if_pos h]
    exact ⟨by decide, by decide⟩
  · rw [if_neg h]; exact okD_settle
theorem as_b32 {s : Bool} {e t : Nat} : FP.Core.assemble FP.Core.b32 s e t = (s.toNat * 256 + e) * 8388608 + t := rfl
theorem n31 {n : Nat} (h : n < 4294967296) : ((UInt32.ofNat n) &&& 0x7fffffff).toNat = n % 2147483648 := by
  rw [UInt32.toNat_and, UInt32.toNat_ofNat']
  rw [Nat.mod_eq_of_lt h]
  exact Nat.and_two_pow_sub_one_eq_mod n 31
/-- the code of such a datum: its fields -/
theorem okD_enc {d : FP.Core.Datum} (h : okD d) : ∃ (s : Bool) (e t : Nat), FP.Core.encode FP.Core.b32 d = FP.Core.assemble FP.Core.b32 s e t ∧ t < 8388608 ∧ (e < 255 ∨ (e = 255 ∧ t = 0)) := by
  cases d with
  | nan => exact h.elim
  | inf s => exact ⟨s, 255, 0, rfl, by decide, Or.inr ⟨rfl, rfl⟩⟩
  | fin s c q =>
    obtain ⟨h1, h2⟩ := h
    by_cases h3 : c < 8388608
    · refine ⟨s, 0, c, ?_, h3, Or.inl (by decide)⟩
      show (if c < 8388608 then _ else _) = _
      rw [if_pos h3]
    · refine ⟨s, (q - -149).toNat + 1, c - 8388608, ?_, by omega, Or.inl (by omega)⟩
      show (if c < 8388608 then _ else FP.Core.assemble FP.Core.b32 s ((q - -149).toNat + 1) (c - 8388608)) = _
      rw [if_neg h3]
theorem tb01 (s : Bool) : s.toNat ≤ 1 := by cases s <;> decide
theorem okD_n {d : FP.Core.Datum} (h : okD d) : vf_n32 (UInt32.ofNat (FP.Core.encode FP.Core.b32 d)) := by
  obtain ⟨s, e, t, e1, h1, h2⟩ := okD_enc h
  have hs := tb01 s
  show (UInt32.ofNat (FP.Core.encode FP.Core.b32 d)) &&& 0x7fffffff ≤ 0x7f800000
  rw [e1, as_b32, UInt32.le_iff_toNat_le, n31 (by omega)]
  show _ ≤ 2139095040
  omega
theorem dec_as {s : Bool} {e t : Nat} (ht : t < 8388608) (he : e < 255) : FP.Core.decode FP.Core.b32 (FP.Core.assemble FP.Core.b32 s e t) = if e = 0 then .fin s t (-149) else .fin s (8388608 + t) (-149 + ((e : Int) - 1)) := by
  have hs := tb01 s
  have a1 : FP.Core.fieldT FP.Core.b32 (FP.Core.assemble FP.Core.b32 s e t) = t := by
    show FP.Core.assemble FP.Core.b32 s e t % 8388608 = t
    rw [as_b32]; omega
  have a2 : FP.Core.fieldE FP.Core.b32 (FP.Core.assemble FP.Core.b32 s e t) = e := by
    show FP.Core.assemble FP.Core.b32 s e t / 8388608 % 256 = e
    rw [as_b32]; omega
  have a3 : FP.Core.fieldS FP.Core.b32 (FP.Core.assemble FP.Core.b32 s e t) = s := by
    show (FP.Core.assemble FP.Core.b32 s e t / 8388608 / 256 % 2 == 1) = s
    have : FP.Core.assemble FP.Core.b32 s e t / 8388608 / 256 % 2 = s.toNat := by rw [as_b32]; omega
    rw [this]; cases s <;> rfl
  unfold FP.Core.decode
  rw [a1, a2, a3]
  have x : FP.Core.Fmt.exps FP.Core.b32 - 1 = 255 := by decide
  have y : FP.Core.Fmt.qmin FP.Core.b32 = -149 := by decide
  have z : FP.Core.Fmt.tails FP.Core.b32 = 8388608 := by decide
  rw [x, y, z, if_neg (by omega)]
/-- a small whole number as 32 bits -/
theorem i2f_dec {n : Nat} (hn : n < 16777216) : ∃ c q, FP.Core.decode FP.Core.b32 (FP.Core.fromInt FP.Core.b32 (n : Int)) = .fin false c q ∧ (n ≠ 0 → c ≠ 0) := by
  have ez : decide ((n : Int) < 0) = false := by simp
  by_cases h0 : n = 0
  · subst h0
    exact ⟨0, -149, by decide, fun h => absurd rfl h⟩
  have er : ∃ c q, FP.Core.roundRatio FP.Core.b32 false n 1 0 = .fin false c q ∧ c < 16777216 ∧ c ≠ 0 ∧ q ≤ 0 := by
    have hl : n.log2 < 24 := (Nat.log2_lt h0).mpr hn
    have el : FP.Core.leading n 1 = (n.log2 : Int) := by
      unfold FP.Core.leading
      have e1 : Nat.log2 1 = 0 := by decide
      rw [e1]
      show (if 1 * 2 ^ ((n.log2 : Int) - ((0 : Nat) : Int)).toNat ≤ n * 2 ^ (-((n.log2 : Int) - ((0 : Nat) : Int))).toNat then (n.log2 : Int) - ((0 : Nat) : Int) else _) = _
      have e2 : ((n.log2 : Int) - ((0 : Nat) : Int)).toNat = n.log2 := by omega
      have e3 : (-((n.log2 : Int) - ((0 : Nat) : Int))).toNat = 0 := by omega
      rw [e2, e3, if_pos]
      · omega
      · have := Nat.log2_self_le h0
        omega
    have eq : FP.Core.quantum FP.Core.b32 n 1 0 = (n.log2 : Int) - 23 := by
      unfold FP.Core.quantum
      rw [el]
      show max (-149) ((n.log2 : Int) + 0 - ((24 : Int) - 1)) = _
      omega
    unfold FP.Core.roundRatio
    rw [if_neg h0, eq]
    unfold FP.Core.roundAt
    have u1 : FP.Core.unitsDen 1 0 ((n.log2 : Int) - 23) = 1 := by
      unfold FP.Core.unitsDen
      rw [show (((n.log2 : Int) - 23) - 0).toNat = 0 by omega]
    have u2 : FP.Core.unitsNum n 0 ((n.log2 : Int) - 23) = n * 2 ^ (23 - n.log2) := by
      unfold FP.Core.unitsNum
      rw [show ((0 : Int) - ((n.log2 : Int) - 23)).toNat = 23 - n.log2 by omega]
    have u3 : FP.Core.nearest (n * 2 ^ (23 - n.log2)) 1 = n * 2 ^ (23 - n.log2) := by
      unfold FP.Core.nearest
      rw [if_pos (by rw [Nat.mod_one]; decide), Nat.div_one]
    rw [u1, u2, u3]
    have hlt : n * 2 ^ (23 - n.log2) < 16777216 := by
      have h1 : n < 2 ^ (n.log2 + 1) := Nat.lt_log2_self
      have h2 : n * 2 ^ (23 - n.log2) < 2 ^ (n.log2 + 1) * 2 ^ (23 - n.log2) := Nat.mul_lt_mul_of_pos_right h1 (Nat.two_pow_pos _)
      rw [← Nat.pow_add, show n.log2 + 1 + (23 - n.log2) = 24 by omega] at h2
      exact h2
    have hne : n * 2 ^ (23 - n.log2) ≠ 0 := Nat.mul_ne_zero h0 (Nat.pos_iff_ne_zero.mp (Nat.two_pow_pos _))
    refine ⟨n * 2 ^ (23 - n.log2), (n.log2 : Int) - 23, ?_, hlt, hne, by omega⟩
    unfold FP.Core.settle
    rw [show (2 : Nat) ^ FP.Core.Fmt.p FP.Core.b32 = 16777216 by decide, if_pos hlt]
    unfold FP.Core.bound
    rw [show FP.Core.Fmt.qmax FP.Core.b32 = 104 by decide, if_pos (by omega)]
  obtain ⟨c, q, e1, h1, h2, h3⟩ := er
  have hr : FP.Core.round FP.Core.b32 (FP.Core.ofInt (n : Int)) = .fin false c q := by
    unfold FP.Core.ofInt
    rw [ez]
    show FP.Core.roundRatio FP.Core.b32 false (n : Int).natAbs 1 0 = _
    rw [Int.natAbs_natCast]; exact e1
  unfold FP.Core.fromInt
  rw [hr]
  have he : FP.Core.encode FP.Core.b32 (.fin false c q) = if c < 8388608 then FP.Core.assemble FP.Core.b32 false 0 c else FP.Core.assemble FP.Core.b32 false ((q - -149).toNat + 1) (c - 8388608) := rfl
  rw [he]
  by_cases h4 : c < 8388608
  · rw [if_pos h4, dec_as h4 (by decide), if_pos rfl]
    exact ⟨c, -149, rfl, fun _ => h2⟩
  · rw [if_neg h4, dec_as (by omega) (by omega), if_neg (by omega)]
    exact ⟨_, _, rfl, fun _ => by omega⟩
theorem i2f_nat {n : Nat} (hn : n < 16777216) : (FP.i2f (nI n)).toNat = FP.Core.fromInt FP.Core.b32 (n : Int) ∧ FP.Core.fromInt FP.Core.b32 (n : Int) < 4294967296 := by
  have h1 : FP.Core.fromInt FP.Core.b32 (n : Int) < 4294967296 := by
    unfold FP.Core.fromInt
    have hk : okD (FP.Core.round FP.Core.b32 (FP.Core.ofInt (n : Int))) := okD_rr
    obtain ⟨s, e, t, e1, h1, h2⟩ := okD_enc hk
    have hs := tb01 s
    rw [e1, as_b32]; omega
  refine ⟨?_, h1⟩
  show (UInt32.ofNat (FP.Core.fromInt FP.Core.b32 (nI n).toInt)).toNat = _
  rw [nI_toInt (by omega), UInt32.toNat_ofNat', Nat.mod_eq_of_lt h1]
/-- the FP.Core.quotient of two small whole numbers, the second not 0 -/
theorem fdiv_n {a b : Nat} (ha : a < 16777216) (hb : b < 16777216) (h0 : b ≠ 0) : vf_n32 (FP.fdiv (FP.i2f (nI a)) (FP.i2f (nI b))) := by
  obtain ⟨c, q, e1, -⟩ := i2f_dec ha
  obtain ⟨d, r, e2, h2⟩ := i2f_dec hb
  show vf_n32 (UInt32.ofNat (FP.Core.div FP.Core.b32 (FP.i2f (nI a)).toNat (FP.i2f (nI b)).toNat))
  rw [(i2f_nat ha).1, (i2f_nat hb).1]
  refine okD_n (d := FP.Core.quotient FP.Core.b32 _ _) ?_
  rw [e1, e2]
  show okD (if d = 0 then _ else _)
  rw [if_neg (h2 h0)]
  exact okD_rr
theorem mean_n {s c : Nat} (hs : s < 481) (hc : c < 9) (h0 : c ≠ 0) : vf_n64 (FP.ddiv (FP.i2d (nI s)) (FP.i2d (nI c))) := by
  have h : ∀ s, s < 481 → ∀ c, c < 9 → c ≠ 0 → (FP.ddiv (FP.i2d (nI s)) (FP.i2d (nI c))) &&& 0x7fffffffffffffff ≤ 0x7ff0000000000000 := by decide +kernel
  exact h s hs c hc h0
/-- the same, of 64 bits -/
def okE (d : FP.Core.Datum) : Prop := match d with
  | .nan => False
  | .inf _ => True
  | .fin _ c q => c < 9007199254740992 ∧ q ≤ 971
theorem okE_bound {s : Bool} {c : Nat} {q : Int} (h : c < 9007199254740992) : okE (FP.Core.bound FP.Core.b64 s c q) := by
  unfold FP.Core.bound
  have e : FP.Core.Fmt.qmax FP.Core.b64 = 971 := by decide
  rw [e]
  by_cases h1 : q ≤ 971
  · rw [if_pos h1]; exact ⟨h, h1⟩
  · rw [if_neg h1]; exact trivial
theorem okE_settle {s : Bool} {c : Nat} {q : Int} : okE (FP.Core.settle FP.Core.b64 s c q) := by
  unfold FP.Core.settle
  have e : (2 : Nat) ^ FP.Core.Fmt.p FP.Core.b64 = 9007199254740992 := by decide
  rw [e]
  by_cases h1 : c < 9007199254740992
  · rw [if_pos h1]; exact okE_bound h1
  · rw [if_neg h1]; exact okE_bound (by decide)
theorem okE_rr {s : Bool} {num den : Nat} {e : Int} : okE (FP.Core.roundRatio FP.Core.b64 s num den e) := by
  unfold FP.Core.roundRatio
  by_cases h : num = 0
  · rw [if_pos h]
    exact ⟨by decide, by decide⟩
  · rw [if_neg h]; exact okE_settle
theorem okE_round {d : FP.Core.Datum} (h : d ≠ .nan) : okE (FP.Core.round FP.Core.b64 d) := by
  cases d with
  | nan => exact absurd rfl h
  | inf s => exact trivial
  | fin s c q => exact okE_rr
theorem as_b64 {s : Bool} {e t : Nat} : FP.Core.assemble FP.Core.b64 s e t = (s.toNat * 2048 + e) * 4503599627370496 + t := rfl
theorem n63 {n : Nat} (h : n < 18446744073709551616) : ((UInt64.ofNat n) &&& 0x7fffffffffffffff).toNat = n % 9223372036854775808 := by
  rw [UInt64.toNat_and, UInt64.toNat_ofNat']
  rw [Nat.mod_eq_of_lt h]
  exact Nat.and_two_pow_sub_one_eq_mod n 63
theorem okE_n {d : FP.Core.Datum} (h : okE d) : vf_n64 (UInt64.ofNat (FP.Core.encode FP.Core.b64 d)) := by
  have key : ∃ (s : Bool) (e t : Nat), FP.Core.encode FP.Core.b64 d = FP.Core.assemble FP.Core.b64 s e t ∧ t < 4503599627370496 ∧ (e < 2047 ∨ (e = 2047 ∧ t = 0)) := by
    cases d with
    | nan => exact h.elim
    | inf s => exact ⟨s, 2047, 0, rfl, by decide, Or.inr ⟨rfl, rfl⟩⟩
    | fin s c q =>
      obtain ⟨h1, h2⟩ := h
      by_cases h3 : c < 4503599627370496
      · refine ⟨s, 0, c, ?_, h3, Or.inl (by decide)⟩
        show (if c < 4503599627370496 then _ else _) = _
        rw [if_pos h3]
      · refine ⟨s, (q - -1074).toNat + 1, c - 4503599627370496, ?_, by omega, Or.inl (by omega)⟩
        show (if c < 4503599627370496 then _ else FP.Core.assemble FP.Core.b64 s ((q - -1074).toNat + 1) (c - 4503599627370496)) = _
        rw [if_neg h3]
  obtain ⟨s, e, t, e1, h1, h2⟩ := key
  have hs := tb01 s
  show (UInt64.ofNat (FP.Core.encode FP.Core.b64 d)) &&& 0x7fffffffffffffff ≤ 0x7ff0000000000000
  rw [e1, as_b64, UInt64.le_iff_toNat_le, n63 (by omega)]
  show _ ≤ 9218868437227405312
  omega
theorem okD_dec {d : FP.Core.Datum} (h : okD d) : FP.Core.decode FP.Core.b32 (FP.Core.encode FP.Core.b32 d) ≠ .nan ∧ FP.Core.encode FP.Core.b32 d < 4294967296 := by
  obtain ⟨s, e, t, e1, h1, h2⟩ := okD_enc h
  have hs := tb01 s
  rw [e1]
  refine ⟨?_, by rw [as_b32]; omega⟩
  rcases h2 with h2 | ⟨rfl, rfl⟩
  · rw [dec_as h1 h2]
    by_cases h0 : e = 0
    · rw [if_pos h0]; exact fun q => nomatch q
    · rw [if_neg h0]; exact fun q => nomatch q
  · cases s <;> decide
theorem fdiv_d {a b : Nat} (ha : a < 16777216) (hb : b < 16777216) (h0 : b ≠ 0) : vf_n64 (FP.f2d (FP.fdiv (FP.i2f (nI a)) (FP.i2f (nI b)))) := by
  obtain ⟨c, q, e1, -⟩ := i2f_dec ha
  obtain ⟨d, r, e2, h2⟩ := i2f_dec hb
  have hx : FP.fdiv (FP.i2f (nI a)) (FP.i2f (nI b)) = UInt32.ofNat (FP.Core.encode FP.Core.b32 (FP.Core.quotient FP.Core.b32 (.fin false c q) (.fin false d r))) := by
    show UInt32.ofNat (FP.Core.div FP.Core.b32 (FP.i2f (nI a)).toNat (FP.i2f (nI b)).toNat) = _
    rw [(i2f_nat ha).1, (i2f_nat hb).1]
    show UInt32.ofNat (FP.Core.encode FP.Core.b32 (FP.Core.quotient FP.Core.b32 _ _)) = _
    rw [e1, e2]
  have hk : okD (FP.Core.quotient FP.Core.b32 (.fin false c q) (.fin false d r)) := by
    show okD (if d = 0 then _ else _)
    rw [if_neg (h2 h0)]
    exact okD_rr
  rw [hx]
  generalize FP.Core.quotient FP.Core.b32 (.fin false c q) (.fin false d r) = D at hk
  obtain ⟨n1, n2⟩ := okD_dec hk
  have hz : (UInt32.ofNat (FP.Core.encode FP.Core.b32 D)).toNat = FP.Core.encode FP.Core.b32 D := by rw [UInt32.toNat_ofNat', Nat.mod_eq_of_lt n2]
  have hn : FP.Core.fIsNaN (UInt32.ofNat (FP.Core.encode FP.Core.b32 D)) = false := by
    show decide (FP.Core.decode FP.Core.b32 (UInt32.ofNat (FP.Core.encode FP.Core.b32 D)).toNat = .nan) = false
    rw [hz]; exact decide_eq_false n1
  unfold FP.f2d
  rw [hn]
  show vf_n64 (UInt64.ofNat (FP.Core.convert FP.Core.b32 FP.Core.b64 (UInt32.ofNat (FP.Core.encode FP.Core.b32 D)).toNat))
  rw [hz]
  exact okE_n (okE_round n1)
