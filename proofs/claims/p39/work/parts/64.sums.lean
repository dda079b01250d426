/-! ===== 64.sums: the accounts (rows laid by wip/p39/gen/make64.py) ===== -/
theorem sum_b {F : Nat → Int32} (b : Nat) : ∀ n, (∀ j, j < n → ∃ v, v ≤ b ∧ F j = nI v) → ∃ s, s ≤ b * n ∧ sumS F n = nI s
  | 0, _ => ⟨0, Nat.zero_le _, rfl⟩
  | n + 1, h => by
    obtain ⟨s, hs, es⟩ := sum_b b n (fun j hj => h j (by omega))
    obtain ⟨v, hv, ev⟩ := h n (by omega)
    refine ⟨s + v, by rw [Nat.mul_add]; omega, ?_⟩
    show sumS F n + F n = _
    rw [es, ev, nI_add]
set_option maxRecDepth 100000 in
set_option maxHeartbeats 4000000 in
theorem sm_a {E : xE} {Po : xPo} {w0 w9 w : xW} {x K i k n : Nat} {h : xHi} {o8 o9 o10 o11 : Option Value} (J : J9 K (h.1 0)) (D : ∀ a, a < 8 → DT ((h.1 0).2.1 a)) (hi : i < n1 (h.1 0)) (H : HI E w x h) (X : FX w9 w x h h) (hk : k ≤ 30 * i + 23) (hn : n ≤ 180 * i + 138) (kx : ∀ (u : xW) (k n : Nat) (o8 o9 o10 o11 : Option Value), HI E u x h → FX w9 u x h h → k ≤ 30 * (i + 1) + 5 → n ≤ 180 * (i + 1) + 30 → WF M_L_sums E Po w0 18 [some (.ref x), some (.int (sumS (fI (h.1 0)) (i + 1))), some (.int (sumS (fT (h.1 0)) (i + 1))), some (.int (sumS (fL (h.1 0)) (i + 1))), some (.int (sumS (cmS (h.1 0)) (i + 1))), some (.int (sumS (ccS (h.1 0)) (i + 1))), some (.int (sumS (fB (h.1 0)) (i + 1))), some (.int (nI (i + 1))), o8, o9, o10, o11] [] u k n) : WF M_L_sums E Po w0 265 [some (.ref x), some (.int (sumS (fI (h.1 0)) (i + 1))), some (.int (sumS (fT (h.1 0)) (i + 1))), some (.int (sumS (fL (h.1 0)) (i + 1))), some (.int (sumS (cmS (h.1 0)) (i + 1))), some (.int (sumS (ccS (h.1 0)) (i + 1))), some (.int (sumS (fB (h.1 0)) (i + 1))), some (.int (nI i)), o8, o9, o10, o11] [] w k n := by
  have n8 := J.1.1.2
  refine r_aload_n (q := 266) dL_sums_265 rfl rfl rfl ?_
  refine r_iload (q := 268) dL_sums_266 rfl rfl ?_
  refine r_iconst (q := 269) (v := 2) dL_sums_268 rfl rfl ?_
  refine r_callSH (q := 272) (k2 := k + 1) (n2 := n + 6) (As := [_, _, _]) dL_sums_269 s_L_sums_187 rfl rfl (Nat.le_of_ble_eq_true rfl) rfl rfl rfl (show k + 1 ≤ 600 by omega) (show n + 6 ≤ 4000 by omega) ⟨(show k + 1 ≤ 600 by omega), (show n + 6 ≤ 4000 by omega)⟩ rfl ?_
  refine la_tubOf H (fun u1 H1 F1 => ?_)
  show WF _ E Po _ _ _ _ _ _ _
  have X1 := X.tr F1
  rw [at_2 J hi]
  refine r_sipush (q := 275) (v := 255) dL_sums_272 (by decide) rfl ?_
  refine r_icmp_gt (q := 291) (q2 := 278) dL_sums_275 (by decide) rfl (fun h9 => absurd h9 (tb_seam J hi)) (fun _ => ?_)
  refine r_aload_n (q := 279) dL_sums_278 rfl rfl rfl ?_
  refine r_iload (q := 281) dL_sums_279 rfl rfl ?_
  refine r_bipush (q := 283) (v := 7) dL_sums_281 (by decide) rfl ?_
  refine r_callSH (q := 286) (k2 := k + 2) (n2 := n + 12) (As := [_, _, _]) dL_sums_283 s_L_sums_187 rfl rfl (Nat.le_of_ble_eq_true rfl) rfl rfl rfl (show k + 2 ≤ 600 by omega) (show n + 12 ≤ 4000 by omega) ⟨(show k + 2 ≤ 600 by omega), (show n + 12 ≤ 4000 by omega)⟩ rfl ?_
  refine la_tubOf H1 (fun u2 H2 F2 => ?_)
  show WF _ E Po _ _ _ _ _ _ _
  have X2 := X1.tr F2
  rw [at_7 J hi]
  refine r_bipush (q := 288) (v := (-12)) dL_sums_286 (by decide) rfl ?_
  refine r_icmp_eq (q := 293) (q2 := 291) dL_sums_288 (by decide) rfl (fun _ => ?_) (fun h9 => absurd rfl h9)
  refine r_iinc (q := 296) dL_sums_293 rfl (Nat.le_of_ble_eq_true rfl) (xone_of rfl) rfl ?_
  rw [show nI i + Int32.ofInt 1 = nI (i + 1) from nI_1 i]
  refine r_goto (q := 18) dL_sums_296 (by decide) ?_
  exact kx _ (k + 2) (n + 12) _ _ _ _ H2 X2 (by omega) (by omega)
set_option maxRecDepth 100000 in
set_option maxHeartbeats 4000000 in
theorem sm_b {E : xE} {Po : xPo} {w0 w9 w : xW} {x K i k n : Nat} {h : xHi} {o11 : Option Value} (J : J9 K (h.1 0)) (D : ∀ a, a < 8 → DT ((h.1 0).2.1 a)) (hi : i < n1 (h.1 0)) (H : HI E w x h) (X : FX w9 w x h h) (hk : k ≤ 30 * i + 20) (hn : n ≤ 180 * i + 120) (kx : ∀ (u : xW) (k n : Nat) (o8 o9 o10 o11 : Option Value), HI E u x h → FX w9 u x h h → k ≤ 30 * (i + 1) + 5 → n ≤ 180 * (i + 1) + 30 → WF M_L_sums E Po w0 18 [some (.ref x), some (.int (sumS (fI (h.1 0)) (i + 1))), some (.int (sumS (fT (h.1 0)) (i + 1))), some (.int (sumS (fL (h.1 0)) (i + 1))), some (.int (sumS (cmS (h.1 0)) (i + 1))), some (.int (sumS (ccS (h.1 0)) (i + 1))), some (.int (sumS (fB (h.1 0)) (i + 1))), some (.int (nI (i + 1))), o8, o9, o10, o11] [] u k n) : WF M_L_sums E Po w0 221 [some (.ref x), some (.int (sumS (fI (h.1 0)) (i + 1))), some (.int (sumS (fT (h.1 0)) (i + 1))), some (.int (sumS (fL (h.1 0)) (i + 1))), some (.int (sumS (cmS (h.1 0)) (i + 1))), some (.int (sumS (ccS (h.1 0)) (i + 1))), some (.int (sumS (fB (h.1 0)) (i + 1))), some (.int (nI i)), some (.int ((h.1 0).2.1 i 1)), some (.int ((h.1 0).2.1 i 3)), some (.int (fT (h.1 0) i)), o11] [.int 1] w k n := by
  have n8 := J.1.1.2
  refine r_istore (q := 223) dL_sums_221 (Nat.le_of_ble_eq_true rfl) (xone_of rfl) rfl ?_
  refine r_iload (q := 225) dL_sums_223 rfl rfl ?_
  refine r_if_eq (q := 291) (q2 := 228) dL_sums_225 (by decide) rfl (fun h9 => absurd h9 (by decide)) (fun _ => ?_)
  refine r_iload (q := 230) dL_sums_228 rfl rfl ?_
  refine r_if_lt (q := 291) (q2 := 233) dL_sums_230 (by decide) rfl (fun h9 => absurd h9 (tb_l0 J hi)) (fun _ => ?_)
  refine r_iload (q := 235) dL_sums_233 rfl rfl ?_
  refine r_bipush (q := 237) (v := 100) dL_sums_235 (by decide) rfl ?_
  refine r_aload_n (q := 238) dL_sums_237 rfl rfl rfl ?_
  refine r_iload (q := 240) dL_sums_238 rfl rfl ?_
  refine r_iconst (q := 241) (v := 0) dL_sums_240 rfl rfl ?_
  refine r_callSH (q := 244) (k2 := k + 1) (n2 := n + 6) (As := [_, _, _]) dL_sums_241 s_L_sums_187 rfl rfl (Nat.le_of_ble_eq_true rfl) rfl rfl rfl (show k + 1 ≤ 600 by omega) (show n + 6 ≤ 4000 by omega) ⟨(show k + 1 ≤ 600 by omega), (show n + 6 ≤ 4000 by omega)⟩ rfl ?_
  refine la_tubOf H (fun u1 H1 F1 => ?_)
  show WF _ E Po _ _ _ _ _ _ _
  have X1 := X.tr F1
  rw [at_0 J hi]
  refine r_imul (q := 245) dL_sums_244 rfl ?_
  refine r_icmp_gt (q := 291) (q2 := 248) dL_sums_245 (by decide) rfl (fun h9 => absurd h9 (tb_l1 J D hi)) (fun _ => ?_)
  refine r_iload (q := 250) dL_sums_248 rfl rfl ?_
  refine r_if_lt (q := 265) (q2 := 253) dL_sums_250 (by decide) rfl (fun ht => ?_) (fun ht => ?_)
  · exact sm_a (k := k + 1) (n := n + 6) J D hi H1 X1 (by omega) (by omega) kx
  · refine r_aload_n (q := 254) dL_sums_253 rfl rfl rfl ?_
    refine r_iload (q := 256) dL_sums_254 rfl rfl ?_
    refine r_iconst (q := 257) (v := 1) dL_sums_256 rfl rfl ?_
    refine r_callSH (q := 260) (k2 := k + 2) (n2 := n + 12) (As := [_, _, _]) dL_sums_257 s_L_sums_189 rfl rfl (Nat.le_of_ble_eq_true rfl) rfl rfl rfl (show k + 2 ≤ 600 by omega) (show n + 12 ≤ 4000 by omega) ⟨(show k + 2 ≤ 600 by omega), (show n + 12 ≤ 4000 by omega)⟩ rfl ?_
    refine la_tentOf H1 (fun u2 H2 F2 => ?_)
    show WF _ E Po _ _ _ _ _ _ _
    have X2 := X1.tr F2
    rw [tb_au J hi ht]
    refine r_iload (q := 262) dL_sums_260 rfl rfl ?_
    refine r_icmp_ne (q := 291) (q2 := 265) dL_sums_262 (by decide) rfl (fun h9 => absurd rfl h9) (fun _ => ?_)
    exact sm_a (k := k + 2) (n := n + 12) J D hi H2 X2 (by omega) (by omega) kx
set_option maxRecDepth 100000 in
set_option maxHeartbeats 4000000 in
theorem sm_c {E : xE} {Po : xPo} {w0 w9 w : xW} {x K i k n : Nat} {h : xHi} {o11 : Option Value} {v : Int32} (ev : v = cmS (h.1 0) i) (J : J9 K (h.1 0)) (D : ∀ a, a < 8 → DT ((h.1 0).2.1 a)) (hi : i < n1 (h.1 0)) (H : HI E w x h) (X : FX w9 w x h h) (hk : k ≤ 30 * i + 17) (hn : n ≤ 180 * i + 102) (kx : ∀ (u : xW) (k n : Nat) (o8 o9 o10 o11 : Option Value), HI E u x h → FX w9 u x h h → k ≤ 30 * (i + 1) + 5 → n ≤ 180 * (i + 1) + 30 → WF M_L_sums E Po w0 18 [some (.ref x), some (.int (sumS (fI (h.1 0)) (i + 1))), some (.int (sumS (fT (h.1 0)) (i + 1))), some (.int (sumS (fL (h.1 0)) (i + 1))), some (.int (sumS (cmS (h.1 0)) (i + 1))), some (.int (sumS (ccS (h.1 0)) (i + 1))), some (.int (sumS (fB (h.1 0)) (i + 1))), some (.int (nI (i + 1))), o8, o9, o10, o11] [] u k n) : WF M_L_sums E Po w0 123 [some (.ref x), some (.int (sumS (fI (h.1 0)) (i + 1))), some (.int (sumS (fT (h.1 0)) (i + 1))), some (.int (sumS (fL (h.1 0)) (i + 1))), some (.int (sumS (cmS (h.1 0)) i)), some (.int (sumS (ccS (h.1 0)) i)), some (.int (sumS (fB (h.1 0)) i)), some (.int (nI i)), some (.int ((h.1 0).2.1 i 1)), some (.int ((h.1 0).2.1 i 3)), some (.int (fT (h.1 0) i)), o11] [.int v, .int (sumS (cmS (h.1 0)) i)] w k n := by
  have n8 := J.1.1.2
  subst ev
  refine r_iadd (q := 124) dL_sums_123 rfl ?_
  refine r_istore (q := 126) dL_sums_124 (Nat.le_of_ble_eq_true rfl) (xone_of rfl) rfl ?_
  refine r_iload (q := 128) dL_sums_126 rfl rfl ?_
  refine r_iload (q := 130) dL_sums_128 rfl rfl ?_
  refine r_diaLe (q := 138) (q1 := 137) (q2 := 133) (a := 0) (b := 1) dL_sums_130 (by decide) rfl dL_sums_133 rfl dL_sums_134 (by decide) dL_sums_137 rfl rfl ?_
  refine r_iadd (q := 139) dL_sums_138 rfl ?_
  refine r_istore (q := 141) dL_sums_139 (Nat.le_of_ble_eq_true rfl) (xone_of rfl) rfl ?_
  refine r_iload (q := 143) dL_sums_141 rfl rfl ?_
  refine r_aload_n (q := 144) dL_sums_143 rfl rfl rfl ?_
  refine r_iload (q := 146) dL_sums_144 rfl rfl ?_
  refine r_bipush (q := 148) (v := 6) dL_sums_146 (by decide) rfl ?_
  refine r_callSH (q := 151) (k2 := k + 1) (n2 := n + 6) (As := [_, _, _]) dL_sums_148 s_L_sums_187 rfl rfl (Nat.le_of_ble_eq_true rfl) rfl rfl rfl (show k + 1 ≤ 600 by omega) (show n + 6 ≤ 4000 by omega) ⟨(show k + 1 ≤ 600 by omega), (show n + 6 ≤ 4000 by omega)⟩ rfl ?_
  refine la_tubOf H (fun u1 H1 F1 => ?_)
  show WF _ E Po _ _ _ _ _ _ _
  have X1 := X.tr F1
  rw [at_6 J hi]
  refine r_iadd (q := 152) dL_sums_151 rfl ?_
  refine r_istore (q := 154) dL_sums_152 (Nat.le_of_ble_eq_true rfl) (xone_of rfl) rfl ?_
  refine r_iload (q := 156) dL_sums_154 rfl rfl ?_
  refine r_if_ne (q := 187) (q2 := 159) dL_sums_156 (by decide) rfl (fun h0 => ?_) (fun h0 => ?_)
  · obtain ⟨ht, h10, h60, -⟩ := tb_wet J hi h0
    refine r_iload (q := 189) dL_sums_187 rfl rfl ?_
    refine r_if_lt (q := 220) (q2 := 192) dL_sums_189 (by decide) rfl (fun h9 => absurd h9 ht) (fun _ => ?_)
    refine r_aload_n (q := 193) dL_sums_192 rfl rfl rfl ?_
    refine r_iload (q := 195) dL_sums_193 rfl rfl ?_
    refine r_iconst (q := 196) (v := 4) dL_sums_195 rfl rfl ?_
    refine r_callSH (q := 199) (k2 := k + 2) (n2 := n + 12) (As := [_, _, _]) dL_sums_196 s_L_sums_187 rfl rfl (Nat.le_of_ble_eq_true rfl) rfl rfl rfl (show k + 2 ≤ 600 by omega) (show n + 12 ≤ 4000 by omega) ⟨(show k + 2 ≤ 600 by omega), (show n + 12 ≤ 4000 by omega)⟩ rfl ?_
    refine la_tubOf H1 (fun u2 H2 F2 => ?_)
    show WF _ E Po _ _ _ _ _ _ _
    have X2 := X1.tr F2
    rw [at_4 J hi]
    refine r_bipush (q := 201) (v := 10) dL_sums_199 (by decide) rfl ?_
    refine r_icmp_lt (q := 220) (q2 := 204) dL_sums_201 (by decide) rfl (fun h9 => absurd h9 h10) (fun _ => ?_)
    refine r_aload_n (q := 205) dL_sums_204 rfl rfl rfl ?_
    refine r_iload (q := 207) dL_sums_205 rfl rfl ?_
    refine r_iconst (q := 208) (v := 4) dL_sums_207 rfl rfl ?_
    refine r_callSH (q := 211) (k2 := k + 3) (n2 := n + 18) (As := [_, _, _]) dL_sums_208 s_L_sums_187 rfl rfl (Nat.le_of_ble_eq_true rfl) rfl rfl rfl (show k + 3 ≤ 600 by omega) (show n + 18 ≤ 4000 by omega) ⟨(show k + 3 ≤ 600 by omega), (show n + 18 ≤ 4000 by omega)⟩ rfl ?_
    refine la_tubOf H2 (fun u3 H3 F3 => ?_)
    show WF _ E Po _ _ _ _ _ _ _
    have X3 := X2.tr F3
    rw [at_4 J hi]
    refine r_bipush (q := 213) (v := 60) dL_sums_211 (by decide) rfl ?_
    refine r_icmp_gt (q := 220) (q2 := 216) dL_sums_213 (by decide) rfl (fun h9 => absurd h9 h60) (fun _ => ?_)
    refine r_iconst (q := 217) (v := 1) dL_sums_216 rfl rfl ?_
    refine r_goto (q := 221) dL_sums_217 (by decide) ?_
    exact sm_b (k := k + 3) (n := n + 18) J D hi H3 X3 (by omega) (by omega) kx
  · obtain ⟨hc, hb5⟩ := tb_dry J D hi h0
    refine r_aload_n (q := 160) dL_sums_159 rfl rfl rfl ?_
    refine r_iload (q := 162) dL_sums_160 rfl rfl ?_
    refine r_iconst (q := 163) (v := 4) dL_sums_162 rfl rfl ?_
    refine r_callSH (q := 166) (k2 := k + 2) (n2 := n + 12) (As := [_, _, _]) dL_sums_163 s_L_sums_187 rfl rfl (Nat.le_of_ble_eq_true rfl) rfl rfl rfl (show k + 2 ≤ 600 by omega) (show n + 12 ≤ 4000 by omega) ⟨(show k + 2 ≤ 600 by omega), (show n + 12 ≤ 4000 by omega)⟩ rfl ?_
    refine la_tubOf H1 (fun u4 H4 F4 => ?_)
    show WF _ E Po _ _ _ _ _ _ _
    have X4 := X1.tr F4
    rw [(at_4 J hi).trans hc]
    refine r_if_ne (q := 183) (q2 := 169) dL_sums_166 (by decide) rfl (fun h9 => absurd rfl h9) (fun _ => ?_)
    refine r_aload_n (q := 170) dL_sums_169 rfl rfl rfl ?_
    refine r_iload (q := 172) dL_sums_170 rfl rfl ?_
    refine r_iconst (q := 173) (v := 5) dL_sums_172 rfl rfl ?_
    refine r_callSH (q := 176) (k2 := k + 3) (n2 := n + 18) (As := [_, _, _]) dL_sums_173 s_L_sums_187 rfl rfl (Nat.le_of_ble_eq_true rfl) rfl rfl rfl (show k + 3 ≤ 600 by omega) (show n + 18 ≤ 4000 by omega) ⟨(show k + 3 ≤ 600 by omega), (show n + 18 ≤ 4000 by omega)⟩ rfl ?_
    refine la_tubOf H4 (fun u5 H5 F5 => ?_)
    show WF _ E Po _ _ _ _ _ _ _
    have X5 := X4.tr F5
    rw [(at_5 J hi).trans hb5]
    refine r_if_ne (q := 183) (q2 := 179) dL_sums_176 (by decide) rfl (fun h9 => absurd rfl h9) (fun _ => ?_)
    refine r_iconst (q := 180) (v := 1) dL_sums_179 rfl rfl ?_
    refine r_goto (q := 221) dL_sums_180 (by decide) ?_
    exact sm_b (k := k + 3) (n := n + 18) J D hi H5 X5 (by omega) (by omega) kx
set_option maxRecDepth 100000 in
set_option maxHeartbeats 4000000 in
theorem sm_d {E : xE} {Po : xPo} {w0 w9 w : xW} {x K i k n : Nat} {h : xHi} {o11 : Option Value} (J : J9 K (h.1 0)) (D : ∀ a, a < 8 → DT ((h.1 0).2.1 a)) (hi : i < n1 (h.1 0)) (H : HI E w x h) (X : FX w9 w x h h) (hk : k ≤ 30 * i + 16) (hn : n ≤ 180 * i + 96) (kx : ∀ (u : xW) (k n : Nat) (o8 o9 o10 o11 : Option Value), HI E u x h → FX w9 u x h h → k ≤ 30 * (i + 1) + 5 → n ≤ 180 * (i + 1) + 30 → WF M_L_sums E Po w0 18 [some (.ref x), some (.int (sumS (fI (h.1 0)) (i + 1))), some (.int (sumS (fT (h.1 0)) (i + 1))), some (.int (sumS (fL (h.1 0)) (i + 1))), some (.int (sumS (cmS (h.1 0)) (i + 1))), some (.int (sumS (ccS (h.1 0)) (i + 1))), some (.int (sumS (fB (h.1 0)) (i + 1))), some (.int (nI (i + 1))), o8, o9, o10, o11] [] u k n) : WF M_L_sums E Po w0 82 [some (.ref x), some (.int (sumS (fI (h.1 0)) i)), some (.int (sumS (fT (h.1 0)) i)), some (.int (sumS (fL (h.1 0)) i)), some (.int (sumS (cmS (h.1 0)) i)), some (.int (sumS (ccS (h.1 0)) i)), some (.int (sumS (fB (h.1 0)) i)), some (.int (nI i)), some (.int ((h.1 0).2.1 i 1)), some (.int ((h.1 0).2.1 i 3)), some (.int (fT (h.1 0) i)), o11] [] w k n := by
  have n8 := J.1.1.2
  refine r_iload_n (q := 83) dL_sums_82 rfl rfl rfl ?_
  refine r_iload (q := 85) dL_sums_83 rfl rfl ?_
  refine r_diaLt (q := 93) (q1 := 92) (q2 := 88) (a := 0) (b := 1) dL_sums_85 (by decide) rfl dL_sums_88 rfl dL_sums_89 (by decide) dL_sums_92 rfl rfl ?_
  refine r_iadd (q := 94) dL_sums_93 rfl ?_
  refine r_istore_n (q := 95) dL_sums_94 rfl (Nat.le_of_ble_eq_true rfl) (xone_of rfl) rfl ?_
  refine r_iload_n (q := 96) dL_sums_95 rfl rfl rfl ?_
  refine r_iload (q := 98) dL_sums_96 rfl rfl ?_
  refine r_iadd (q := 99) dL_sums_98 rfl ?_
  refine r_istore_n (q := 100) dL_sums_99 rfl (Nat.le_of_ble_eq_true rfl) (xone_of rfl) rfl ?_
  refine r_iload_n (q := 101) dL_sums_100 rfl rfl rfl ?_
  refine r_iload (q := 103) dL_sums_101 rfl rfl ?_
  refine r_iadd (q := 104) dL_sums_103 rfl ?_
  refine r_istore_n (q := 105) dL_sums_104 rfl (Nat.le_of_ble_eq_true rfl) (xone_of rfl) rfl ?_
  refine r_iload (q := 107) dL_sums_105 rfl rfl ?_
  refine r_iload (q := 109) dL_sums_107 rfl rfl ?_
  refine r_if_le (q := 122) (q2 := 112) dL_sums_109 (by decide) rfl (fun h0 => ?_) (fun h0 => ?_)
  · refine r_iconst (q := 123) (v := 0) dL_sums_122 rfl rfl ?_
    first
      | exact sm_c (k := k) (n := n) rfl J D hi H X (by omega) (by omega) kx
      | exact sm_c (k := k) (n := n) (if_pos h0).symm J D hi H X (by omega) (by omega) kx
  · refine r_aload_n (q := 113) dL_sums_112 rfl rfl rfl ?_
    refine r_iload (q := 115) dL_sums_113 rfl rfl ?_
    refine r_iconst (q := 116) (v := 4) dL_sums_115 rfl rfl ?_
    refine r_callSH (q := 119) (k2 := k + 1) (n2 := n + 6) (As := [_, _, _]) dL_sums_116 s_L_sums_187 rfl rfl (Nat.le_of_ble_eq_true rfl) rfl rfl rfl (show k + 1 ≤ 600 by omega) (show n + 6 ≤ 4000 by omega) ⟨(show k + 1 ≤ 600 by omega), (show n + 6 ≤ 4000 by omega)⟩ rfl ?_
    refine la_tubOf H (fun u1 H1 F1 => ?_)
    show WF _ E Po _ _ _ _ _ _ _
    have X1 := X.tr F1
    rw [at_4 J hi]
    refine r_goto (q := 123) dL_sums_119 (by decide) ?_
    first
      | exact sm_c (k := k + 1) (n := n + 6) rfl J D hi H1 X1 (by omega) (by omega) kx
      | exact sm_c (k := k + 1) (n := n + 6) (if_pos h0).symm J D hi H1 X1 (by omega) (by omega) kx
set_option maxRecDepth 100000 in
set_option maxHeartbeats 4000000 in
theorem sm_e {E : xE} {Po : xPo} {w0 w9 : xW} {x K i : Nat} {h : xHi} (J : J9 K (h.1 0)) (hi : i < n1 (h.1 0)) (kx : ∀ (u : xW) (k n : Nat) (o11 : Option Value), HI E u x h → FX w9 u x h h → k ≤ 30 * i + 16 → n ≤ 180 * i + 96 → WF M_L_sums E Po w0 82 [some (.ref x), some (.int (sumS (fI (h.1 0)) i)), some (.int (sumS (fT (h.1 0)) i)), some (.int (sumS (fL (h.1 0)) i)), some (.int (sumS (cmS (h.1 0)) i)), some (.int (sumS (ccS (h.1 0)) i)), some (.int (sumS (fB (h.1 0)) i)), some (.int (nI i)), some (.int ((h.1 0).2.1 i 1)), some (.int ((h.1 0).2.1 i 3)), some (.int (fT (h.1 0) i)), o11] [] u k n) : ∀ (z j : Nat) (w : xW) (k n : Nat) (hz : j + z = 8) (H : HI E w x h) (X : FX w9 w x h h) (hk : k ≤ 30 * i + 8 + j) (hn : n ≤ 180 * i + 48 + 6 * j), WF M_L_sums E Po w0 52 [some (.ref x), some (.int (sumS (fI (h.1 0)) i)), some (.int (sumS (fT (h.1 0)) i)), some (.int (sumS (fL (h.1 0)) i)), some (.int (sumS (cmS (h.1 0)) i)), some (.int (sumS (ccS (h.1 0)) i)), some (.int (sumS (fB (h.1 0)) i)), some (.int (nI i)), some (.int ((h.1 0).2.1 i 1)), some (.int ((h.1 0).2.1 i 3)), some (.int (tmS ((h.1 0).2.1 i 2) j)), some (.int (nI j))] [] w k n := by
  intro z
  induction z with
  | zero =>
    intro j w k n hz H X hk hn
    have n8 := J.1.1.2
    obtain rfl : j = 8 := by omega
    refine r_iload (q := 54) dL_sums_52 rfl rfl ?_
    refine r_bipush (q := 56) (v := 8) dL_sums_54 (by decide) rfl ?_
    refine r_icmp_ge (q := 82) (q2 := 59) dL_sums_56 (by decide) rfl (fun _ => ?_) (fun h9 => absurd (show (8 : Int32) ≤ nI 8 by decide) h9)
    rw [tm_8 J hi]
    exact kx _ (k) (n) _ H X (by omega) (by omega)
  | succ z ih =>
    intro j w k n hz H X hk hn
    have n8 := J.1.1.2
    refine r_iload (q := 54) dL_sums_52 rfl rfl ?_
    refine r_bipush (q := 56) (v := 8) dL_sums_54 (by decide) rfl ?_
    refine r_icmp_ge (q := 82) (q2 := 59) dL_sums_56 (by decide) rfl (fun h9 => absurd h9 (nI_ge (b := 8) (show j < 8 by omega) (by decide))) (fun _ => ?_)
    refine r_iload (q := 61) dL_sums_59 rfl rfl ?_
    refine r_aload_n (q := 62) dL_sums_61 rfl rfl rfl ?_
    refine r_iload (q := 64) dL_sums_62 rfl rfl ?_
    refine r_iconst (q := 65) (v := 2) dL_sums_64 rfl rfl ?_
    refine r_callSH (q := 68) (k2 := k + 1) (n2 := n + 6) (As := [_, _, _]) dL_sums_65 s_L_sums_187 rfl rfl (Nat.le_of_ble_eq_true rfl) rfl rfl rfl (show k + 1 ≤ 600 by omega) (show n + 6 ≤ 4000 by omega) ⟨(show k + 1 ≤ 600 by omega), (show n + 6 ≤ 4000 by omega)⟩ rfl ?_
    refine la_tubOf H (fun u1 H1 F1 => ?_)
    show WF _ E Po _ _ _ _ _ _ _
    have X1 := X.tr F1
    rw [at_2 J hi]
    refine r_iload (q := 70) dL_sums_68 rfl rfl ?_
    refine r_ishr (q := 71) dL_sums_70 rfl ?_
    refine r_iconst (q := 72) (v := 1) dL_sums_71 rfl rfl ?_
    refine r_iand (q := 73) dL_sums_72 rfl ?_
    refine r_iadd (q := 74) dL_sums_73 rfl ?_
    rw [tm_s J hi (show j < 8 by omega)]
    refine r_istore (q := 76) dL_sums_74 (Nat.le_of_ble_eq_true rfl) (xone_of rfl) rfl ?_
    refine r_iinc (q := 79) dL_sums_76 rfl (Nat.le_of_ble_eq_true rfl) (xone_of rfl) rfl ?_
    rw [show nI j + Int32.ofInt 1 = nI (j + 1) from nI_1 j]
    refine r_goto (q := 52) dL_sums_79 (by decide) ?_
    exact ih (j + 1) _ (k + 1) (n + 6) (by omega) H1 X1 (by omega) (by omega)
set_option maxRecDepth 100000 in
set_option maxHeartbeats 4000000 in
theorem sm_f {E : xE} {Po : xPo} {w0 w9 : xW} {x K : Nat} {h : xHi} (J : J9 K (h.1 0)) (D : ∀ a, a < 8 → DT ((h.1 0).2.1 a)) (kx : ∀ (u : xW) (k n : Nat) (o8 o9 o10 o11 : Option Value), HI E u x h → FX w9 u x h h → k ≤ 250 → n ≤ 1500 → WF M_L_sums E Po w0 299 [some (.ref x), some (.int (sumS (fI (h.1 0)) (n1 (h.1 0)))), some (.int (sumS (fT (h.1 0)) (n1 (h.1 0)))), some (.int (sumS (fL (h.1 0)) (n1 (h.1 0)))), some (.int (sumS (cmS (h.1 0)) (n1 (h.1 0)))), some (.int (sumS (ccS (h.1 0)) (n1 (h.1 0)))), some (.int (sumS (fB (h.1 0)) (n1 (h.1 0)))), some (.int (nI (n1 (h.1 0)))), o8, o9, o10, o11] [] u k n) : ∀ (z i : Nat) (w : xW) (k n : Nat) (o8 o9 o10 o11 : Option Value) (hz : i + z = n1 (h.1 0)) (H : HI E w x h) (X : FX w9 w x h h) (hk : k ≤ 30 * i + 5) (hn : n ≤ 180 * i + 30), WF M_L_sums E Po w0 18 [some (.ref x), some (.int (sumS (fI (h.1 0)) i)), some (.int (sumS (fT (h.1 0)) i)), some (.int (sumS (fL (h.1 0)) i)), some (.int (sumS (cmS (h.1 0)) i)), some (.int (sumS (ccS (h.1 0)) i)), some (.int (sumS (fB (h.1 0)) i)), some (.int (nI i)), o8, o9, o10, o11] [] w k n := by
  intro z
  induction z with
  | zero =>
    intro i w k n o8 o9 o10 o11 hz H X hk hn
    have n8 := J.1.1.2
    obtain rfl : i = n1 (h.1 0) := by omega
    refine r_iload (q := 20) dL_sums_18 rfl rfl ?_
    refine r_aload_n (q := 21) dL_sums_20 rfl rfl rfl ?_
    refine r_iconst (q := 22) (v := 1) dL_sums_21 rfl rfl ?_
    refine r_callV (q := 25) (ci := 11) (k2 := k + 1) (n2 := n + 6) (As := [_]) dL_sums_22 s_L_sums_184 H.1.1 rfl rfl rfl (Nat.le_of_ble_eq_true rfl) rfl rfl rfl (show k + 1 ≤ 600 by omega) (show n + 6 ≤ 4000 by omega) ⟨(show k + 1 ≤ 600 by omega), (show n + 6 ≤ 4000 by omega)⟩ rfl ?_
    refine la_number H J.inC (by decide) (by decide) (by decide) (by decide) ?_
    show WF _ E Po _ _ _ _ _ _ _
    rw [show stToldS (h.1 0) 1 = nI (n1 (h.1 0)) from J.1.1.1]
    refine r_icmp_ge (q := 299) (q2 := 28) dL_sums_25 (by decide) rfl (fun _ => ?_) (fun h9 => absurd (Int32.le_refl _) h9)
    exact kx _ (k + 1) (n + 6) _ _ _ _ H X (by omega) (by omega)
  | succ z ih =>
    intro i w k n o8 o9 o10 o11 hz H X hk hn
    have n8 := J.1.1.2
    have hi : i < n1 (h.1 0) := by omega
    refine r_iload (q := 20) dL_sums_18 rfl rfl ?_
    refine r_aload_n (q := 21) dL_sums_20 rfl rfl rfl ?_
    refine r_iconst (q := 22) (v := 1) dL_sums_21 rfl rfl ?_
    refine r_callV (q := 25) (ci := 11) (k2 := k + 1) (n2 := n + 6) (As := [_]) dL_sums_22 s_L_sums_184 H.1.1 rfl rfl rfl (Nat.le_of_ble_eq_true rfl) rfl rfl rfl (show k + 1 ≤ 600 by omega) (show n + 6 ≤ 4000 by omega) ⟨(show k + 1 ≤ 600 by omega), (show n + 6 ≤ 4000 by omega)⟩ rfl ?_
    refine la_number H J.inC (by decide) (by decide) (by decide) (by decide) ?_
    show WF _ E Po _ _ _ _ _ _ _
    rw [show stToldS (h.1 0) 1 = nI (n1 (h.1 0)) from J.1.1.1]
    refine r_icmp_ge (q := 299) (q2 := 28) dL_sums_25 (by decide) rfl (fun h9 => absurd h9 (nI_ge (show i < n1 (h.1 0) by omega) (by omega))) (fun _ => ?_)
    refine r_aload_n (q := 29) dL_sums_28 rfl rfl rfl ?_
    refine r_iload (q := 31) dL_sums_29 rfl rfl ?_
    refine r_iconst (q := 32) (v := 1) dL_sums_31 rfl rfl ?_
    refine r_callSH (q := 35) (k2 := k + 2) (n2 := n + 12) (As := [_, _, _]) dL_sums_32 s_L_sums_187 rfl rfl (Nat.le_of_ble_eq_true rfl) rfl rfl rfl (show k + 2 ≤ 600 by omega) (show n + 12 ≤ 4000 by omega) ⟨(show k + 2 ≤ 600 by omega), (show n + 12 ≤ 4000 by omega)⟩ rfl ?_
    refine la_tubOf H (fun u1 H1 F1 => ?_)
    show WF _ E Po _ _ _ _ _ _ _
    have X1 := X.tr F1
    rw [at_1 J hi]
    refine r_istore (q := 37) dL_sums_35 (Nat.le_of_ble_eq_true rfl) (xone_of rfl) rfl ?_
    refine r_aload_n (q := 38) dL_sums_37 rfl rfl rfl ?_
    refine r_iload (q := 40) dL_sums_38 rfl rfl ?_
    refine r_iconst (q := 41) (v := 3) dL_sums_40 rfl rfl ?_
    refine r_callSH (q := 44) (k2 := k + 3) (n2 := n + 18) (As := [_, _, _]) dL_sums_41 s_L_sums_187 rfl rfl (Nat.le_of_ble_eq_true rfl) rfl rfl rfl (show k + 3 ≤ 600 by omega) (show n + 18 ≤ 4000 by omega) ⟨(show k + 3 ≤ 600 by omega), (show n + 18 ≤ 4000 by omega)⟩ rfl ?_
    refine la_tubOf H1 (fun u2 H2 F2 => ?_)
    show WF _ E Po _ _ _ _ _ _ _
    have X2 := X1.tr F2
    rw [at_3 J hi]
    refine r_istore (q := 46) dL_sums_44 (Nat.le_of_ble_eq_true rfl) (xone_of rfl) rfl ?_
    refine r_iconst (q := 47) (v := 0) dL_sums_46 rfl rfl ?_
    refine r_istore (q := 49) dL_sums_47 (Nat.le_of_ble_eq_true rfl) (xone_of rfl) rfl ?_
    refine r_iconst (q := 50) (v := 0) dL_sums_49 rfl rfl ?_
    refine r_istore (q := 52) dL_sums_50 (Nat.le_of_ble_eq_true rfl) (xone_of rfl) rfl ?_
    exact sm_e J hi (fun u k n o11 H X hk hn => sm_d J D hi H X hk hn (fun u k n o8 o9 o10 o11 H X hk hn => ih (i + 1) u k n o8 o9 o10 o11 (by omega) H X hk hn)) 8 0 _ (k + 3) (n + 18) rfl H2 X2 (by omega) (by omega)
set_option maxRecDepth 100000 in
set_option maxHeartbeats 4000000 in
theorem sm_g {E : xE} {Po : xPo} {w0 w9 w : xW} {x K i k n : Nat} {h : xHi} {o9 o10 o11 : Option Value} (hi : i < n3 (h.1 0)) (J : J9 K (h.1 0)) (H : HI E w x h) (X : FX w9 w x h h) (hk : k ≤ 250 + 8 * i + 6) (hn : n ≤ 1500 + 48 * i + 36) (kx : ∀ (u : xW) (k n : Nat) (o9 o10 o11 : Option Value), HI E u x h → FX w9 u x h h → k ≤ 250 + 8 * (i + 1) → n ≤ 1500 + 48 * (i + 1) → WF M_L_sums E Po w0 305 [some (.ref x), some (.int (sumS (fI (h.1 0)) (n1 (h.1 0)))), some (.int (sumS (fT (h.1 0)) (n1 (h.1 0)))), some (.int (sumS (fL (h.1 0)) (n1 (h.1 0)))), some (.int (sumS (cmS (h.1 0)) (n1 (h.1 0)))), some (.int (sumS (ccS (h.1 0)) (n1 (h.1 0)))), some (.int (sumS (fB (h.1 0)) (n1 (h.1 0)))), some (.int (sumS (fG (h.1 0)) (i + 1))), some (.int (nI (i + 1))), o9, o10, o11] [] u k n) : WF M_L_sums E Po w0 377 [some (.ref x), some (.int (sumS (fI (h.1 0)) (n1 (h.1 0)))), some (.int (sumS (fT (h.1 0)) (n1 (h.1 0)))), some (.int (sumS (fL (h.1 0)) (n1 (h.1 0)))), some (.int (sumS (cmS (h.1 0)) (n1 (h.1 0)))), some (.int (sumS (ccS (h.1 0)) (n1 (h.1 0)))), some (.int (sumS (fB (h.1 0)) (n1 (h.1 0)))), some (.int (sumS (fG (h.1 0)) (i + 1))), some (.int (nI i)), o9, o10, o11] [] w k n := by
  have n8 := J.1.2.2.2
  refine r_iinc (q := 380) dL_sums_377 rfl (Nat.le_of_ble_eq_true rfl) (xone_of rfl) rfl ?_
  rw [show nI i + Int32.ofInt 1 = nI (i + 1) from nI_1 i]
  refine r_goto (q := 305) dL_sums_380 (by decide) ?_
  exact kx _ (k) (n) _ _ _ H X (by omega) (by omega)
set_option maxRecDepth 100000 in
set_option maxHeartbeats 4000000 in
theorem sm_h {E : xE} {Po : xPo} {w0 w9 : xW} {x K : Nat} {h : xHi} (J : J9 K (h.1 0)) (kx : ∀ (u : xW) (k n : Nat) (o9 o10 o11 : Option Value), HI E u x h → FX w9 u x h h → k ≤ 290 → n ≤ 1750 → WF M_L_sums E Po w0 383 [some (.ref x), some (.int (sumS (fI (h.1 0)) (n1 (h.1 0)))), some (.int (sumS (fT (h.1 0)) (n1 (h.1 0)))), some (.int (sumS (fL (h.1 0)) (n1 (h.1 0)))), some (.int (sumS (cmS (h.1 0)) (n1 (h.1 0)))), some (.int (sumS (ccS (h.1 0)) (n1 (h.1 0)))), some (.int (sumS (fB (h.1 0)) (n1 (h.1 0)))), some (.int (sumS (fG (h.1 0)) (n3 (h.1 0)))), some (.int (nI (n3 (h.1 0)))), o9, o10, o11] [] u k n) : ∀ (z i : Nat) (w : xW) (k n : Nat) (o9 o10 o11 : Option Value) (hz : i + z = n3 (h.1 0)) (H : HI E w x h) (X : FX w9 w x h h) (hk : k ≤ 250 + 8 * i) (hn : n ≤ 1500 + 48 * i), WF M_L_sums E Po w0 305 [some (.ref x), some (.int (sumS (fI (h.1 0)) (n1 (h.1 0)))), some (.int (sumS (fT (h.1 0)) (n1 (h.1 0)))), some (.int (sumS (fL (h.1 0)) (n1 (h.1 0)))), some (.int (sumS (cmS (h.1 0)) (n1 (h.1 0)))), some (.int (sumS (ccS (h.1 0)) (n1 (h.1 0)))), some (.int (sumS (fB (h.1 0)) (n1 (h.1 0)))), some (.int (sumS (fG (h.1 0)) i)), some (.int (nI i)), o9, o10, o11] [] w k n := by
  intro z
  induction z with
  | zero =>
    intro i w k n o9 o10 o11 hz H X hk hn
    have n8 := J.1.2.2.2
    obtain rfl : i = n3 (h.1 0) := by omega
    refine r_iload (q := 307) dL_sums_305 rfl rfl ?_
    refine r_aload_n (q := 308) dL_sums_307 rfl rfl rfl ?_
    refine r_iconst (q := 309) (v := 5) dL_sums_308 rfl rfl ?_
    refine r_callV (q := 312) (ci := 11) (k2 := k + 1) (n2 := n + 6) (As := [_]) dL_sums_309 s_L_sums_184 H.1.1 rfl rfl rfl (Nat.le_of_ble_eq_true rfl) rfl rfl rfl (show k + 1 ≤ 600 by omega) (show n + 6 ≤ 4000 by omega) ⟨(show k + 1 ≤ 600 by omega), (show n + 6 ≤ 4000 by omega)⟩ rfl ?_
    refine la_number H J.inC (by decide) (by decide) (by decide) (by decide) ?_
    show WF _ E Po _ _ _ _ _ _ _
    rw [show stToldS (h.1 0) 5 = nI (n3 (h.1 0)) from J.1.2.2.1]
    refine r_icmp_ge (q := 383) (q2 := 315) dL_sums_312 (by decide) rfl (fun _ => ?_) (fun h9 => absurd (Int32.le_refl _) h9)
    exact kx _ (k + 1) (n + 6) _ _ _ H X (by omega) (by omega)
  | succ z ih =>
    intro i w k n o9 o10 o11 hz H X hk hn
    have n8 := J.1.2.2.2
    have hi : i < n3 (h.1 0) := by omega
    refine r_iload (q := 307) dL_sums_305 rfl rfl ?_
    refine r_aload_n (q := 308) dL_sums_307 rfl rfl rfl ?_
    refine r_iconst (q := 309) (v := 5) dL_sums_308 rfl rfl ?_
    refine r_callV (q := 312) (ci := 11) (k2 := k + 1) (n2 := n + 6) (As := [_]) dL_sums_309 s_L_sums_184 H.1.1 rfl rfl rfl (Nat.le_of_ble_eq_true rfl) rfl rfl rfl (show k + 1 ≤ 600 by omega) (show n + 6 ≤ 4000 by omega) ⟨(show k + 1 ≤ 600 by omega), (show n + 6 ≤ 4000 by omega)⟩ rfl ?_
    refine la_number H J.inC (by decide) (by decide) (by decide) (by decide) ?_
    show WF _ E Po _ _ _ _ _ _ _
    rw [show stToldS (h.1 0) 5 = nI (n3 (h.1 0)) from J.1.2.2.1]
    refine r_icmp_ge (q := 383) (q2 := 315) dL_sums_312 (by decide) rfl (fun h9 => absurd h9 (nI_ge (show i < n3 (h.1 0) by omega) (by omega))) (fun _ => ?_)
    refine r_aload_n (q := 316) dL_sums_315 rfl rfl rfl ?_
    refine r_iload (q := 318) dL_sums_316 rfl rfl ?_
    refine r_iconst (q := 319) (v := 0) dL_sums_318 rfl rfl ?_
    refine r_callSH (q := 322) (k2 := k + 2) (n2 := n + 12) (As := [_, _, _]) dL_sums_319 s_L_sums_191 rfl rfl (Nat.le_of_ble_eq_true rfl) rfl rfl rfl (show k + 2 ≤ 600 by omega) (show n + 12 ≤ 4000 by omega) ⟨(show k + 2 ≤ 600 by omega), (show n + 12 ≤ 4000 by omega)⟩ rfl ?_
    refine la_heaterOf H (fun u1 H1 F1 => ?_)
    show WF _ E Po _ _ _ _ _ _ _
    have X1 := X.tr F1
    rw [ag_0 J hi]
    refine r_istore (q := 324) dL_sums_322 (Nat.le_of_ble_eq_true rfl) (xone_of rfl) rfl ?_
    refine r_iload (q := 326) dL_sums_324 rfl rfl ?_
    refine r_aload_n (q := 327) dL_sums_326 rfl rfl rfl ?_
    refine r_iload (q := 329) dL_sums_327 rfl rfl ?_
    refine r_iconst (q := 330) (v := 1) dL_sums_329 rfl rfl ?_
    refine r_callSH (q := 333) (k2 := k + 3) (n2 := n + 18) (As := [_, _, _]) dL_sums_330 s_L_sums_191 rfl rfl (Nat.le_of_ble_eq_true rfl) rfl rfl rfl (show k + 3 ≤ 600 by omega) (show n + 18 ≤ 4000 by omega) ⟨(show k + 3 ≤ 600 by omega), (show n + 18 ≤ 4000 by omega)⟩ rfl ?_
    refine la_heaterOf H1 (fun u2 H2 F2 => ?_)
    show WF _ E Po _ _ _ _ _ _ _
    have X2 := X1.tr F2
    rw [ag_1 J hi]
    refine r_iadd (q := 334) dL_sums_333 rfl ?_
    refine r_istore (q := 336) dL_sums_334 (Nat.le_of_ble_eq_true rfl) (xone_of rfl) rfl ?_
    refine r_aload_n (q := 337) dL_sums_336 rfl rfl rfl ?_
    refine r_iload (q := 339) dL_sums_337 rfl rfl ?_
    refine r_iconst (q := 340) (v := 1) dL_sums_339 rfl rfl ?_
    refine r_callSH (q := 343) (k2 := k + 4) (n2 := n + 24) (As := [_, _, _]) dL_sums_340 s_L_sums_191 rfl rfl (Nat.le_of_ble_eq_true rfl) rfl rfl rfl (show k + 4 ≤ 600 by omega) (show n + 24 ≤ 4000 by omega) ⟨(show k + 4 ≤ 600 by omega), (show n + 24 ≤ 4000 by omega)⟩ rfl ?_
    refine la_heaterOf H2 (fun u3 H3 F3 => ?_)
    show WF _ E Po _ _ _ _ _ _ _
    have X3 := X2.tr F3
    rw [ag_1 J hi]
    refine r_if_lt (q := 375) (q2 := 346) dL_sums_343 (by decide) rfl (fun h9 => absurd h9 (ht_gas J hi).1) (fun _ => ?_)
    refine r_aload_n (q := 347) dL_sums_346 rfl rfl rfl ?_
    refine r_iload (q := 349) dL_sums_347 rfl rfl ?_
    refine r_iconst (q := 350) (v := 1) dL_sums_349 rfl rfl ?_
    refine r_callSH (q := 353) (k2 := k + 5) (n2 := n + 30) (As := [_, _, _]) dL_sums_350 s_L_sums_191 rfl rfl (Nat.le_of_ble_eq_true rfl) rfl rfl rfl (show k + 5 ≤ 600 by omega) (show n + 30 ≤ 4000 by omega) ⟨(show k + 5 ≤ 600 by omega), (show n + 30 ≤ 4000 by omega)⟩ rfl ?_
    refine la_heaterOf H3 (fun u4 H4 F4 => ?_)
    show WF _ E Po _ _ _ _ _ _ _
    have X4 := X3.tr F4
    rw [ag_1 J hi]
    refine r_bipush (q := 355) (v := 60) dL_sums_353 (by decide) rfl ?_
    refine r_icmp_gt (q := 375) (q2 := 358) dL_sums_355 (by decide) rfl (fun h9 => absurd h9 (ht_gas J hi).2) (fun _ => ?_)
    refine r_iload (q := 360) dL_sums_358 rfl rfl ?_
    refine r_if_lt (q := 377) (q2 := 363) dL_sums_360 (by decide) rfl (fun ht => ?_) (fun ht => ?_)
    · exact sm_g (k := k + 5) (n := n + 30) hi J H4 X4 (by omega) (by omega) (fun u k n o9 o10 o11 H X hk hn => ih (i + 1) u k n o9 o10 o11 (by omega) H X hk hn)
    · refine r_aload_n (q := 364) dL_sums_363 rfl rfl rfl ?_
      refine r_iload (q := 366) dL_sums_364 rfl rfl ?_
      refine r_iconst (q := 367) (v := 2) dL_sums_366 rfl rfl ?_
      refine r_callSH (q := 370) (k2 := k + 6) (n2 := n + 36) (As := [_, _, _]) dL_sums_367 s_L_sums_189 rfl rfl (Nat.le_of_ble_eq_true rfl) rfl rfl rfl (show k + 6 ≤ 600 by omega) (show n + 36 ≤ 4000 by omega) ⟨(show k + 6 ≤ 600 by omega), (show n + 36 ≤ 4000 by omega)⟩ rfl ?_
      refine la_tentOf H4 (fun u5 H5 F5 => ?_)
      show WF _ E Po _ _ _ _ _ _ _
      have X5 := X4.tr F5
      rw [hg_au J hi ht]
      refine r_iload (q := 372) dL_sums_370 rfl rfl ?_
      refine r_icmp_eq (q := 377) (q2 := 375) dL_sums_372 (by decide) rfl (fun _ => ?_) (fun h9 => absurd rfl h9)
      exact sm_g (k := k + 6) (n := n + 36) hi J H5 X5 (by omega) (by omega) (fun u k n o9 o10 o11 H X hk hn => ih (i + 1) u k n o9 o10 o11 (by omega) H X hk hn)
set_option maxRecDepth 100000 in
set_option maxHeartbeats 4000000 in
theorem sm_i {E : xE} {Po : xPo} {w0 w9 : xW} {x K : Nat} {h : xHi} (J : J9 K (h.1 0)) (kx : ∀ (u : xW) (k n : Nat) (o11 : Option Value), HI E u x h → FX w9 u x h h → k ≤ 320 → n ≤ 1950 → WF M_L_sums E Po w0 432 [some (.ref x), some (.int (sumS (fI (h.1 0)) (n1 (h.1 0)))), some (.int (sumS (fT (h.1 0)) (n1 (h.1 0)))), some (.int (sumS (fL (h.1 0)) (n1 (h.1 0)))), some (.int (sumS (cmS (h.1 0)) (n1 (h.1 0)))), some (.int (sumS (ccS (h.1 0)) (n1 (h.1 0)))), some (.int (sumS (fB (h.1 0)) (n1 (h.1 0)))), some (.int (sumS (fG (h.1 0)) (n3 (h.1 0)))), some (.int (sumS (fW (h.1 0)) (n2 (h.1 0)))), some (.int (sumS (fD (h.1 0)) (n2 (h.1 0)))), some (.int (nI (n2 (h.1 0)))), o11] [] u k n) : ∀ (z i : Nat) (w : xW) (k n : Nat) (o11 : Option Value) (hz : i + z = n2 (h.1 0)) (H : HI E w x h) (X : FX w9 w x h h) (hk : k ≤ 290 + 4 * i) (hn : n ≤ 1750 + 24 * i), WF M_L_sums E Po w0 392 [some (.ref x), some (.int (sumS (fI (h.1 0)) (n1 (h.1 0)))), some (.int (sumS (fT (h.1 0)) (n1 (h.1 0)))), some (.int (sumS (fL (h.1 0)) (n1 (h.1 0)))), some (.int (sumS (cmS (h.1 0)) (n1 (h.1 0)))), some (.int (sumS (ccS (h.1 0)) (n1 (h.1 0)))), some (.int (sumS (fB (h.1 0)) (n1 (h.1 0)))), some (.int (sumS (fG (h.1 0)) (n3 (h.1 0)))), some (.int (sumS (fW (h.1 0)) i)), some (.int (sumS (fD (h.1 0)) i)), some (.int (nI i)), o11] [] w k n := by
  intro z
  induction z with
  | zero =>
    intro i w k n o11 hz H X hk hn
    have n8 := J.1.2.1.2
    obtain rfl : i = n2 (h.1 0) := by omega
    refine r_iload (q := 394) dL_sums_392 rfl rfl ?_
    refine r_aload_n (q := 395) dL_sums_394 rfl rfl rfl ?_
    refine r_iconst (q := 396) (v := 4) dL_sums_395 rfl rfl ?_
    refine r_callV (q := 399) (ci := 11) (k2 := k + 1) (n2 := n + 6) (As := [_]) dL_sums_396 s_L_sums_184 H.1.1 rfl rfl rfl (Nat.le_of_ble_eq_true rfl) rfl rfl rfl (show k + 1 ≤ 600 by omega) (show n + 6 ≤ 4000 by omega) ⟨(show k + 1 ≤ 600 by omega), (show n + 6 ≤ 4000 by omega)⟩ rfl ?_
    refine la_number H J.inC (by decide) (by decide) (by decide) (by decide) ?_
    show WF _ E Po _ _ _ _ _ _ _
    rw [show stToldS (h.1 0) 4 = nI (n2 (h.1 0)) from J.1.2.1.1]
    refine r_icmp_ge (q := 432) (q2 := 402) dL_sums_399 (by decide) rfl (fun _ => ?_) (fun h9 => absurd (Int32.le_refl _) h9)
    exact kx _ (k + 1) (n + 6) _ H X (by omega) (by omega)
  | succ z ih =>
    intro i w k n o11 hz H X hk hn
    have n8 := J.1.2.1.2
    have hi : i < n2 (h.1 0) := by omega
    refine r_iload (q := 394) dL_sums_392 rfl rfl ?_
    refine r_aload_n (q := 395) dL_sums_394 rfl rfl rfl ?_
    refine r_iconst (q := 396) (v := 4) dL_sums_395 rfl rfl ?_
    refine r_callV (q := 399) (ci := 11) (k2 := k + 1) (n2 := n + 6) (As := [_]) dL_sums_396 s_L_sums_184 H.1.1 rfl rfl rfl (Nat.le_of_ble_eq_true rfl) rfl rfl rfl (show k + 1 ≤ 600 by omega) (show n + 6 ≤ 4000 by omega) ⟨(show k + 1 ≤ 600 by omega), (show n + 6 ≤ 4000 by omega)⟩ rfl ?_
    refine la_number H J.inC (by decide) (by decide) (by decide) (by decide) ?_
    show WF _ E Po _ _ _ _ _ _ _
    rw [show stToldS (h.1 0) 4 = nI (n2 (h.1 0)) from J.1.2.1.1]
    refine r_icmp_ge (q := 432) (q2 := 402) dL_sums_399 (by decide) rfl (fun h9 => absurd h9 (nI_ge (show i < n2 (h.1 0) by omega) (by omega))) (fun _ => ?_)
    refine r_iload (q := 404) dL_sums_402 rfl rfl ?_
    refine r_aload_n (q := 405) dL_sums_404 rfl rfl rfl ?_
    refine r_iload (q := 407) dL_sums_405 rfl rfl ?_
    refine r_iconst (q := 408) (v := 3) dL_sums_407 rfl rfl ?_
    refine r_callSH (q := 411) (k2 := k + 2) (n2 := n + 12) (As := [_, _, _]) dL_sums_408 s_L_sums_189 rfl rfl (Nat.le_of_ble_eq_true rfl) rfl rfl rfl (show k + 2 ≤ 600 by omega) (show n + 12 ≤ 4000 by omega) ⟨(show k + 2 ≤ 600 by omega), (show n + 12 ≤ 4000 by omega)⟩ rfl ?_
    refine la_tentOf H (fun u1 H1 F1 => ?_)
    show WF _ E Po _ _ _ _ _ _ _
    have X1 := X.tr F1
    rw [au_3 J hi]
    refine r_iadd (q := 412) dL_sums_411 rfl ?_
    refine r_istore (q := 414) dL_sums_412 (Nat.le_of_ble_eq_true rfl) (xone_of rfl) rfl ?_
    refine r_iload (q := 416) dL_sums_414 rfl rfl ?_
    refine r_aload_n (q := 417) dL_sums_416 rfl rfl rfl ?_
    refine r_iload (q := 419) dL_sums_417 rfl rfl ?_
    refine r_iconst (q := 420) (v := 4) dL_sums_419 rfl rfl ?_
    refine r_callSH (q := 423) (k2 := k + 3) (n2 := n + 18) (As := [_, _, _]) dL_sums_420 s_L_sums_189 rfl rfl (Nat.le_of_ble_eq_true rfl) rfl rfl rfl (show k + 3 ≤ 600 by omega) (show n + 18 ≤ 4000 by omega) ⟨(show k + 3 ≤ 600 by omega), (show n + 18 ≤ 4000 by omega)⟩ rfl ?_
    refine la_tentOf H1 (fun u2 H2 F2 => ?_)
    show WF _ E Po _ _ _ _ _ _ _
    have X2 := X1.tr F2
    rw [au_4 J hi]
    refine r_iadd (q := 424) dL_sums_423 rfl ?_
    refine r_istore (q := 426) dL_sums_424 (Nat.le_of_ble_eq_true rfl) (xone_of rfl) rfl ?_
    refine r_iinc (q := 429) dL_sums_426 rfl (Nat.le_of_ble_eq_true rfl) (xone_of rfl) rfl ?_
    rw [show nI i + Int32.ofInt 1 = nI (i + 1) from nI_1 i]
    refine r_goto (q := 392) dL_sums_429 (by decide) ?_
    exact ih (i + 1) _ (k + 3) (n + 18) _ (by omega) H2 X2 (by omega) (by omega)
set_option maxRecDepth 100000 in
set_option maxHeartbeats 4000000 in
theorem sm_k {E : xE} {Po : xPo} {w0 w9 w : xW} {x K m k n : Nat} {h : xHi} {o11 : Option Value} (J : J9 K (h.1 0)) (G : GQ m (h.1 0)) (hm : m < 1000000) (hK : K < 16000000) (H : HI E w x h) (X : FX w9 w x h h) (hk : k ≤ 330) (hn : n ≤ 2010) (hp : ∀ u, HI E u x h → FX w9 u x h h → Po (.inl (some (.int 1))) u) : WF M_L_sums E Po w0 492 [some (.ref x), some (.int (sumS (fI (h.1 0)) (n1 (h.1 0)))), some (.int (sumS (fT (h.1 0)) (n1 (h.1 0)))), some (.int (sumS (fL (h.1 0)) (n1 (h.1 0)))), some (.int (sumS (cmS (h.1 0)) (n1 (h.1 0)))), some (.int (sumS (ccS (h.1 0)) (n1 (h.1 0)))), some (.int (sumS (fB (h.1 0)) (n1 (h.1 0)))), some (.int (sumS (fG (h.1 0)) (n3 (h.1 0)))), some (.int (sumS (fW (h.1 0)) (n2 (h.1 0)))), some (.int (sumS (fD (h.1 0)) (n2 (h.1 0)))), some (.int 1), o11] [.int 1] w k n := by
  have n8 := J.1.1.2
  obtain ⟨e12, e78, e9, e10, e11, eB, e2, e3, e14, e6, e13, e13b⟩ := sums_f J G hm hK
  refine r_istore (q := 494) dL_sums_492 (Nat.le_of_ble_eq_true rfl) (xone_of rfl) rfl ?_
  refine r_aload_n (q := 495) dL_sums_494 rfl rfl rfl ?_
  refine r_callV (q := 498) (ci := 11) (k2 := k) (n2 := n) (As := []) dL_sums_495 s_L_sums_202 H.1.1 rfl rfl rfl (Nat.le_of_ble_eq_true rfl) rfl rfl rfl (show k ≤ 600 by omega) (show n ≤ 4000 by omega) ⟨(show k ≤ 600 by omega), (show n ≤ 4000 by omega)⟩ rfl ?_
  refine ct_X9_towels H ?_
  show WF _ E Po _ _ _ _ _ _ _
  rw [e12]
  refine r_bipush (q := 500) (v := 12) dL_sums_498 (by decide) rfl ?_
  refine r_icmp_ne (q := 638) (q2 := 503) dL_sums_500 (by decide) rfl (fun h9 => absurd rfl h9) (fun _ => ?_)
  refine r_aload_n (q := 504) dL_sums_503 rfl rfl rfl ?_
  refine r_bipush (q := 506) (v := 7) dL_sums_504 (by decide) rfl ?_
  refine r_callV (q := 509) (ci := 11) (k2 := k + 1) (n2 := n + 6) (As := [_]) dL_sums_506 s_L_sums_184 H.1.1 rfl rfl rfl (Nat.le_of_ble_eq_true rfl) rfl rfl rfl (show k + 1 ≤ 600 by omega) (show n + 6 ≤ 4000 by omega) ⟨(show k + 1 ≤ 600 by omega), (show n + 6 ≤ 4000 by omega)⟩ rfl ?_
  refine la_number H J.inC (by decide) (by decide) (by decide) (by decide) ?_
  show WF _ E Po _ _ _ _ _ _ _
  refine r_aload_n (q := 510) dL_sums_509 rfl rfl rfl ?_
  refine r_bipush (q := 512) (v := 8) dL_sums_510 (by decide) rfl ?_
  refine r_callV (q := 515) (ci := 11) (k2 := k + 2) (n2 := n + 12) (As := [_]) dL_sums_512 s_L_sums_184 H.1.1 rfl rfl rfl (Nat.le_of_ble_eq_true rfl) rfl rfl rfl (show k + 2 ≤ 600 by omega) (show n + 12 ≤ 4000 by omega) ⟨(show k + 2 ≤ 600 by omega), (show n + 12 ≤ 4000 by omega)⟩ rfl ?_
  refine la_number H J.inC (by decide) (by decide) (by decide) (by decide) ?_
  show WF _ E Po _ _ _ _ _ _ _
  refine r_iadd (q := 516) dL_sums_515 rfl ?_
  refine r_iload (q := 518) dL_sums_516 rfl rfl ?_
  refine r_iadd (q := 519) dL_sums_518 rfl ?_
  rw [e78]
  refine r_bipush (q := 521) (v := 12) dL_sums_519 (by decide) rfl ?_
  refine r_icmp_ne (q := 638) (q2 := 524) dL_sums_521 (by decide) rfl (fun h9 => absurd rfl h9) (fun _ => ?_)
  refine r_aload_n (q := 525) dL_sums_524 rfl rfl rfl ?_
  refine r_bipush (q := 527) (v := 9) dL_sums_525 (by decide) rfl ?_
  refine r_callV (q := 530) (ci := 11) (k2 := k + 3) (n2 := n + 18) (As := [_]) dL_sums_527 s_L_sums_184 H.1.1 rfl rfl rfl (Nat.le_of_ble_eq_true rfl) rfl rfl rfl (show k + 3 ≤ 600 by omega) (show n + 18 ≤ 4000 by omega) ⟨(show k + 3 ≤ 600 by omega), (show n + 18 ≤ 4000 by omega)⟩ rfl ?_
  refine la_number H J.inC (by decide) (by decide) (by decide) (by decide) ?_
  show WF _ E Po _ _ _ _ _ _ _
  rw [e9]
  refine r_iload (q := 532) dL_sums_530 rfl rfl ?_
  refine r_icmp_ne (q := 638) (q2 := 535) dL_sums_532 (by decide) rfl (fun h9 => absurd rfl h9) (fun _ => ?_)
  refine r_aload_n (q := 536) dL_sums_535 rfl rfl rfl ?_
  refine r_bipush (q := 538) (v := 10) dL_sums_536 (by decide) rfl ?_
  refine r_callV (q := 541) (ci := 11) (k2 := k + 4) (n2 := n + 24) (As := [_]) dL_sums_538 s_L_sums_184 H.1.1 rfl rfl rfl (Nat.le_of_ble_eq_true rfl) rfl rfl rfl (show k + 4 ≤ 600 by omega) (show n + 24 ≤ 4000 by omega) ⟨(show k + 4 ≤ 600 by omega), (show n + 24 ≤ 4000 by omega)⟩ rfl ?_
  refine la_number H J.inC (by decide) (by decide) (by decide) (by decide) ?_
  show WF _ E Po _ _ _ _ _ _ _
  rw [e10]
  refine r_iload (q := 543) dL_sums_541 rfl rfl ?_
  refine r_iload (q := 545) dL_sums_543 rfl rfl ?_
  refine r_iadd (q := 546) dL_sums_545 rfl ?_
  refine r_icmp_ne (q := 638) (q2 := 549) dL_sums_546 (by decide) rfl (fun h9 => absurd rfl h9) (fun _ => ?_)
  refine r_aload_n (q := 550) dL_sums_549 rfl rfl rfl ?_
  refine r_bipush (q := 552) (v := 11) dL_sums_550 (by decide) rfl ?_
  refine r_callV (q := 555) (ci := 11) (k2 := k + 5) (n2 := n + 30) (As := [_]) dL_sums_552 s_L_sums_184 H.1.1 rfl rfl rfl (Nat.le_of_ble_eq_true rfl) rfl rfl rfl (show k + 5 ≤ 600 by omega) (show n + 30 ≤ 4000 by omega) ⟨(show k + 5 ≤ 600 by omega), (show n + 30 ≤ 4000 by omega)⟩ rfl ?_
  refine la_number H J.inC (by decide) (by decide) (by decide) (by decide) ?_
  show WF _ E Po _ _ _ _ _ _ _
  rw [e11]
  refine r_iload (q := 557) dL_sums_555 rfl rfl ?_
  refine r_icmp_ne (q := 638) (q2 := 560) dL_sums_557 (by decide) rfl (fun h9 => absurd rfl h9) (fun _ => ?_)
  refine r_iload (q := 562) dL_sums_560 rfl rfl ?_
  refine r_iload (q := 564) dL_sums_562 rfl rfl ?_
  refine r_icmp_ne (q := 638) (q2 := 567) dL_sums_564 (by decide) rfl (fun h9 => absurd eB h9) (fun _ => ?_)
  refine r_aload_n (q := 568) dL_sums_567 rfl rfl rfl ?_
  refine r_iconst (q := 569) (v := 2) dL_sums_568 rfl rfl ?_
  refine r_callV (q := 572) (ci := 11) (k2 := k + 6) (n2 := n + 36) (As := [_]) dL_sums_569 s_L_sums_184 H.1.1 rfl rfl rfl (Nat.le_of_ble_eq_true rfl) rfl rfl rfl (show k + 6 ≤ 600 by omega) (show n + 36 ≤ 4000 by omega) ⟨(show k + 6 ≤ 600 by omega), (show n + 36 ≤ 4000 by omega)⟩ rfl ?_
  refine la_number H J.inC (by decide) (by decide) (by decide) (by decide) ?_
  show WF _ E Po _ _ _ _ _ _ _
  rw [e2]
  refine r_iload_n (q := 573) dL_sums_572 rfl rfl rfl ?_
  refine r_icmp_ne (q := 638) (q2 := 576) dL_sums_573 (by decide) rfl (fun h9 => absurd rfl h9) (fun _ => ?_)
  refine r_aload_n (q := 577) dL_sums_576 rfl rfl rfl ?_
  refine r_iconst (q := 578) (v := 3) dL_sums_577 rfl rfl ?_
  refine r_callV (q := 581) (ci := 11) (k2 := k + 7) (n2 := n + 42) (As := [_]) dL_sums_578 s_L_sums_184 H.1.1 rfl rfl rfl (Nat.le_of_ble_eq_true rfl) rfl rfl rfl (show k + 7 ≤ 600 by omega) (show n + 42 ≤ 4000 by omega) ⟨(show k + 7 ≤ 600 by omega), (show n + 42 ≤ 4000 by omega)⟩ rfl ?_
  refine la_number H J.inC (by decide) (by decide) (by decide) (by decide) ?_
  show WF _ E Po _ _ _ _ _ _ _
  rw [e3]
  refine r_iload_n (q := 582) dL_sums_581 rfl rfl rfl ?_
  refine r_icmp_ne (q := 638) (q2 := 585) dL_sums_582 (by decide) rfl (fun h9 => absurd rfl h9) (fun _ => ?_)
  refine r_aload_n (q := 586) dL_sums_585 rfl rfl rfl ?_
  refine r_bipush (q := 588) (v := 14) dL_sums_586 (by decide) rfl ?_
  refine r_callV (q := 591) (ci := 11) (k2 := k + 8) (n2 := n + 48) (As := [_]) dL_sums_588 s_L_sums_184 H.1.1 rfl rfl rfl (Nat.le_of_ble_eq_true rfl) rfl rfl rfl (show k + 8 ≤ 600 by omega) (show n + 48 ≤ 4000 by omega) ⟨(show k + 8 ≤ 600 by omega), (show n + 48 ≤ 4000 by omega)⟩ rfl ?_
  refine la_number H J.inC (by decide) (by decide) (by decide) (by decide) ?_
  show WF _ E Po _ _ _ _ _ _ _
  rw [e14]
  refine r_iload_n (q := 592) dL_sums_591 rfl rfl rfl ?_
  refine r_icmp_ne (q := 638) (q2 := 595) dL_sums_592 (by decide) rfl (fun h9 => absurd rfl h9) (fun _ => ?_)
  refine r_aload_n (q := 596) dL_sums_595 rfl rfl rfl ?_
  refine r_bipush (q := 598) (v := 6) dL_sums_596 (by decide) rfl ?_
  refine r_callV (q := 601) (ci := 11) (k2 := k + 9) (n2 := n + 54) (As := [_]) dL_sums_598 s_L_sums_184 H.1.1 rfl rfl rfl (Nat.le_of_ble_eq_true rfl) rfl rfl rfl (show k + 9 ≤ 600 by omega) (show n + 54 ≤ 4000 by omega) ⟨(show k + 9 ≤ 600 by omega), (show n + 54 ≤ 4000 by omega)⟩ rfl ?_
  refine la_number H J.inC (by decide) (by decide) (by decide) (by decide) ?_
  show WF _ E Po _ _ _ _ _ _ _
  rw [e6]
  refine r_iload (q := 603) dL_sums_601 rfl rfl ?_
  refine r_icmp_ne (q := 638) (q2 := 606) dL_sums_603 (by decide) rfl (fun h9 => absurd rfl h9) (fun _ => ?_)
  refine r_aload_n (q := 607) dL_sums_606 rfl rfl rfl ?_
  refine r_bipush (q := 609) (v := 13) dL_sums_607 (by decide) rfl ?_
  refine r_callV (q := 612) (ci := 11) (k2 := k + 10) (n2 := n + 60) (As := [_]) dL_sums_609 s_L_sums_184 H.1.1 rfl rfl rfl (Nat.le_of_ble_eq_true rfl) rfl rfl rfl (show k + 10 ≤ 600 by omega) (show n + 60 ≤ 4000 by omega) ⟨(show k + 10 ≤ 600 by omega), (show n + 60 ≤ 4000 by omega)⟩ rfl ?_
  refine la_number H J.inC (by decide) (by decide) (by decide) (by decide) ?_
  show WF _ E Po _ _ _ _ _ _ _
  refine r_if_lt (q := 638) (q2 := 615) dL_sums_612 (by decide) rfl (fun h9 => absurd h9 e13) (fun _ => ?_)
  refine r_aload_n (q := 616) dL_sums_615 rfl rfl rfl ?_
  refine r_bipush (q := 618) (v := 12) dL_sums_616 (by decide) rfl ?_
  refine r_callV (q := 621) (ci := 11) (k2 := k + 11) (n2 := n + 66) (As := [_]) dL_sums_618 s_L_sums_184 H.1.1 rfl rfl rfl (Nat.le_of_ble_eq_true rfl) rfl rfl rfl (show k + 11 ≤ 600 by omega) (show n + 66 ≤ 4000 by omega) ⟨(show k + 11 ≤ 600 by omega), (show n + 66 ≤ 4000 by omega)⟩ rfl ?_
  refine la_number H J.inC (by decide) (by decide) (by decide) (by decide) ?_
  show WF _ E Po _ _ _ _ _ _ _
  refine r_if_lt (q := 638) (q2 := 624) dL_sums_621 (by decide) rfl (fun h9 => absurd h9 e13b) (fun _ => ?_)
  refine r_iload (q := 626) dL_sums_624 rfl rfl ?_
  refine r_if_eq (q := 638) (q2 := 629) dL_sums_626 (by decide) rfl (fun h9 => absurd h9 (by decide)) (fun _ => ?_)
  refine r_iload (q := 631) dL_sums_629 rfl rfl ?_
  refine r_if_eq (q := 638) (q2 := 634) dL_sums_631 (by decide) rfl (fun h9 => absurd h9 (by decide)) (fun _ => ?_)
  refine r_iconst (q := 635) (v := 1) dL_sums_634 rfl rfl ?_
  refine r_goto (q := 639) dL_sums_635 (by decide) ?_
  refine r_zret dL_sums_639 rfl (by decide) (show k + 11 ≤ 600 by omega) (show n + 66 ≤ 4000 by omega) ?_
  exact hp _ H X
set_option maxRecDepth 100000 in
set_option maxHeartbeats 4000000 in
theorem sm_l {E : xE} {Po : xPo} {w0 w9 w : xW} {x K m k n : Nat} {h : xHi} {o11 : Option Value} (J : J9 K (h.1 0)) (G : GQ m (h.1 0)) (hm : m < 1000000) (hK : K < 16000000) (H : HI E w x h) (X : FX w9 w x h h) (hk : k ≤ 325) (hn : n ≤ 1980) (hp : ∀ u, HI E u x h → FX w9 u x h h → Po (.inl (some (.int 1))) u) : WF M_L_sums E Po w0 457 [some (.ref x), some (.int (sumS (fI (h.1 0)) (n1 (h.1 0)))), some (.int (sumS (fT (h.1 0)) (n1 (h.1 0)))), some (.int (sumS (fL (h.1 0)) (n1 (h.1 0)))), some (.int (sumS (cmS (h.1 0)) (n1 (h.1 0)))), some (.int (sumS (ccS (h.1 0)) (n1 (h.1 0)))), some (.int (sumS (fB (h.1 0)) (n1 (h.1 0)))), some (.int (sumS (fG (h.1 0)) (n3 (h.1 0)))), some (.int (sumS (fW (h.1 0)) (n2 (h.1 0)))), some (.int (sumS (fD (h.1 0)) (n2 (h.1 0)))), some (.int (nI (n2 (h.1 0)))), o11] [.int 1] w k n := by
  have n8 := J.1.1.2
  obtain ⟨e12, e78, e9, e10, e11, eB, -⟩ := sums_f J G hm hK
  obtain ⟨cl, us, ca, ba, ⟨a1, a2, a3, a4⟩, ⟨b1, b2, b3⟩, -⟩ := id G
  have ed : sumS (fD (h.1 0)) (n2 (h.1 0)) = (h.1 0).1 9 := e11.symm
  have hne : ¬ (h.1 0).1 8 = 0 → vf_n32 (FP.fdiv (FP.i2f ((h.1 0).1 9)) (FP.i2f ((h.1 0).1 8))) := fun q => by
    rw [a3, a4]
    rw [a3] at q
    exact fdiv_n (by omega) (by omega) (fun z => q (by rw [z]; rfl))
  refine r_istore (q := 459) dL_sums_457 (Nat.le_of_ble_eq_true rfl) (xone_of rfl) rfl ?_
  refine r_aload_n (q := 460) dL_sums_459 rfl rfl rfl ?_
  refine r_bipush (q := 462) (v := 10) dL_sums_460 (by decide) rfl ?_
  refine r_callV (q := 465) (ci := 11) (k2 := k + 1) (n2 := n + 6) (As := [_]) dL_sums_462 s_L_sums_184 H.1.1 rfl rfl rfl (Nat.le_of_ble_eq_true rfl) rfl rfl rfl (show k + 1 ≤ 600 by omega) (show n + 6 ≤ 4000 by omega) ⟨(show k + 1 ≤ 600 by omega), (show n + 6 ≤ 4000 by omega)⟩ rfl ?_
  refine la_number H J.inC (by decide) (by decide) (by decide) (by decide) ?_
  show WF _ E Po _ _ _ _ _ _ _
  rw [show stToldS (h.1 0) 10 = (h.1 0).1 8 from rfl]
  refine r_if_eq (q := 487) (q2 := 468) dL_sums_465 (by decide) rfl (fun h8 => ?_) (fun h8 => ?_)
  · refine r_iconst (q := 488) (v := 1) dL_sums_487 rfl rfl ?_
    refine r_goto (q := 492) dL_sums_488 (by decide) ?_
    exact sm_k (k := k + 1) (n := n + 6) J G hm hK H X (by omega) (by omega) hp
  · have hv : vf_n32 (FP.fdiv (FP.i2f (sumS (fD (h.1 0)) (n2 (h.1 0)))) (FP.i2f ((h.1 0).1 8))) := by rw [ed]; exact hne h8
    refine r_aload_n (q := 469) dL_sums_468 rfl rfl rfl ?_
    refine r_callV (q := 472) (ci := 11) (k2 := k + 2) (n2 := n + 12) (As := []) dL_sums_469 s_L_sums_198 H.1.1 rfl rfl rfl (Nat.le_of_ble_eq_true rfl) rfl rfl rfl (show k + 2 ≤ 600 by omega) (show n + 12 ≤ 4000 by omega) ⟨(show k + 2 ≤ 600 by omega), (show n + 12 ≤ 4000 by omega)⟩ rfl ?_
    refine ct_X9_bathedShare H hne ?_
    rw [if_neg h8]
    show WF _ E Po _ _ _ _ _ _ _
    rw [← ed]
    refine r_iload (q := 474) dL_sums_472 rfl rfl ?_
    refine r_i2f (q := 475) dL_sums_474 rfl ?_
    refine r_aload_n (q := 476) dL_sums_475 rfl rfl rfl ?_
    refine r_bipush (q := 478) (v := 10) dL_sums_476 (by decide) rfl ?_
    refine r_callV (q := 481) (ci := 11) (k2 := k + 3) (n2 := n + 18) (As := [_]) dL_sums_478 s_L_sums_184 H.1.1 rfl rfl rfl (Nat.le_of_ble_eq_true rfl) rfl rfl rfl (show k + 3 ≤ 600 by omega) (show n + 18 ≤ 4000 by omega) ⟨(show k + 3 ≤ 600 by omega), (show n + 18 ≤ 4000 by omega)⟩ rfl ?_
    refine la_number H J.inC (by decide) (by decide) (by decide) (by decide) ?_
    show WF _ E Po _ _ _ _ _ _ _
    rw [show stToldS (h.1 0) 10 = (h.1 0).1 8 from rfl]
    refine r_i2f (q := 482) dL_sums_481 rfl ?_
    refine r_fdiv (q := 483) dL_sums_482 hv rfl ?_
    refine r_fcmp (q := 484) dL_sums_483 rfl ?_
    rw [fcmp_s hv]
    refine r_if_ne (q := 491) (q2 := 487) dL_sums_484 (by decide) rfl (fun h9 => absurd rfl h9) (fun _ => ?_)
    refine r_iconst (q := 488) (v := 1) dL_sums_487 rfl rfl ?_
    refine r_goto (q := 492) dL_sums_488 (by decide) ?_
    exact sm_k (k := k + 3) (n := n + 18) J G hm hK H X (by omega) (by omega) hp
set_option maxRecDepth 100000 in
set_option maxHeartbeats 4000000 in
theorem sm_m {E : xE} {Po : xPo} {w0 w9 w : xW} {x K m k n : Nat} {h : xHi} {o11 : Option Value} (J : J9 K (h.1 0)) (G : GQ m (h.1 0)) (hm : m < 1000000) (hK : K < 16000000) (H : HI E w x h) (X : FX w9 w x h h) (hk : k ≤ 320) (hn : n ≤ 1950) (hp : ∀ u, HI E u x h → FX w9 u x h h → Po (.inl (some (.int 1))) u) : WF M_L_sums E Po w0 432 [some (.ref x), some (.int (sumS (fI (h.1 0)) (n1 (h.1 0)))), some (.int (sumS (fT (h.1 0)) (n1 (h.1 0)))), some (.int (sumS (fL (h.1 0)) (n1 (h.1 0)))), some (.int (sumS (cmS (h.1 0)) (n1 (h.1 0)))), some (.int (sumS (ccS (h.1 0)) (n1 (h.1 0)))), some (.int (sumS (fB (h.1 0)) (n1 (h.1 0)))), some (.int (sumS (fG (h.1 0)) (n3 (h.1 0)))), some (.int (sumS (fW (h.1 0)) (n2 (h.1 0)))), some (.int (sumS (fD (h.1 0)) (n2 (h.1 0)))), some (.int (nI (n2 (h.1 0)))), o11] [] w k n := by
  have n8 := J.1.1.2
  have hcm : ∀ j, j < n1 (h.1 0) → ∃ v, v ≤ 60 ∧ cmS (h.1 0) j = nI v := fun j hj => by
    obtain ⟨-, -, -, ⟨v, -, hv, ev⟩, -⟩ := J.2.2.1 j (by omega)
    by_cases z : (h.1 0).2.1 j 3 ≤ 0
    · exact ⟨0, by omega, if_pos z⟩
    · exact ⟨v, hv, (if_neg z).trans ev⟩
  have hcc : ∀ j, j < n1 (h.1 0) → ∃ v, v ≤ 1 ∧ ccS (h.1 0) j = nI v := fun j hj => by
    by_cases z : (h.1 0).2.1 j 3 ≤ 0
    · exact ⟨0, by omega, if_pos z⟩
    · exact ⟨1, by omega, if_neg z⟩
  obtain ⟨s, hs, es⟩ := sum_b 60 (n1 (h.1 0)) hcm
  obtain ⟨q, hq, eq⟩ := sum_b 1 (n1 (h.1 0)) hcc
  have hne : ¬ sumS (ccS (h.1 0)) (n1 (h.1 0)) = 0 → vf_n64 (FP.ddiv (FP.i2d (sumS (cmS (h.1 0)) (n1 (h.1 0)))) (FP.i2d (sumS (ccS (h.1 0)) (n1 (h.1 0))))) := fun z => by
    rw [es, eq]
    rw [eq] at z
    exact mean_n (by omega) (by omega) (fun y => z (by rw [y]; rfl))
  refine r_iload (q := 434) dL_sums_432 rfl rfl ?_
  refine r_if_eq (q := 452) (q2 := 437) dL_sums_434 (by decide) rfl (fun h8 => ?_) (fun h8 => ?_)
  · refine r_iconst (q := 453) (v := 1) dL_sums_452 rfl rfl ?_
    refine r_goto (q := 457) dL_sums_453 (by decide) ?_
    exact sm_l (k := k) (n := n) J G hm hK H X (by omega) (by omega) hp
  · have hv := hne h8
    refine r_aload_n (q := 438) dL_sums_437 rfl rfl rfl ?_
    refine r_callV (q := 441) (ci := 11) (k2 := k + 1) (n2 := n + 6) (As := []) dL_sums_438 s_L_sums_194 H.1.1 rfl rfl rfl (Nat.le_of_ble_eq_true rfl) rfl rfl rfl (show k + 1 ≤ 600 by omega) (show n + 6 ≤ 4000 by omega) ⟨(show k + 1 ≤ 600 by omega), (show n + 6 ≤ 4000 by omega)⟩ rfl ?_
    refine ct_X9_meanWarmth H n8 J.1.1.1 hne ?_
    rw [if_neg h8]
    show WF _ E Po _ _ _ _ _ _ _
    refine r_iload (q := 443) dL_sums_441 rfl rfl ?_
    refine r_i2d (q := 444) dL_sums_443 rfl ?_
    refine r_iload (q := 446) dL_sums_444 rfl rfl ?_
    refine r_i2d (q := 447) dL_sums_446 rfl ?_
    refine r_ddiv (q := 448) dL_sums_447 hv rfl ?_
    refine r_dcmp (q := 449) dL_sums_448 rfl ?_
    rw [dcmp_s hv]
    refine r_if_ne (q := 456) (q2 := 452) dL_sums_449 (by decide) rfl (fun h9 => absurd rfl h9) (fun _ => ?_)
    refine r_iconst (q := 453) (v := 1) dL_sums_452 rfl rfl ?_
    refine r_goto (q := 457) dL_sums_453 (by decide) ?_
    exact sm_l (k := k + 1) (n := n + 6) J G hm hK H X (by omega) (by omega) hp
set_option maxRecDepth 100000 in
set_option maxHeartbeats 4000000 in
theorem ct_L_sums {E : xE} {Po : xPo} {w : xW} {x K m : Nat} {h : xHi} (J : J9 K (h.1 0)) (G : GQ m (h.1 0)) (hm : m < 1000000) (hK : K < 16000000) (H : HI E w x h) (hp : ∀ u, HI E u x h → FX w u x h h → Po (.inl (some (.int 1))) u) : Ct M_L_sums E [.ref x] w Po := by
  refine Ct.of (ws2 := xAll) (L := [some (.ref x), none, none, none, none, none, none, none, none, none, none, none]) (by decide +kernel) rfl rfl (List.forall_mem_cons.mpr ⟨rfl, fun _ h => absurd h List.not_mem_nil⟩) (Nat.le_of_ble_eq_true rfl) rfl ?_
  have n8 := J.1.1.2
  have n5 := J.1.2.1.2
  have n4 := J.1.2.2.2
  obtain ⟨cl, us, ca, ba, -, -, -, -, -, D⟩ := id G
  refine r_iconst (q := 1) (v := 0) dL_sums_0 rfl rfl ?_
  refine r_istore_n (q := 2) dL_sums_1 rfl (Nat.le_of_ble_eq_true rfl) (xone_of rfl) rfl ?_
  refine r_iconst (q := 3) (v := 0) dL_sums_2 rfl rfl ?_
  refine r_istore_n (q := 4) dL_sums_3 rfl (Nat.le_of_ble_eq_true rfl) (xone_of rfl) rfl ?_
  refine r_iconst (q := 5) (v := 0) dL_sums_4 rfl rfl ?_
  refine r_istore_n (q := 6) dL_sums_5 rfl (Nat.le_of_ble_eq_true rfl) (xone_of rfl) rfl ?_
  refine r_iconst (q := 7) (v := 0) dL_sums_6 rfl rfl ?_
  refine r_istore (q := 9) dL_sums_7 (Nat.le_of_ble_eq_true rfl) (xone_of rfl) rfl ?_
  refine r_iconst (q := 10) (v := 0) dL_sums_9 rfl rfl ?_
  refine r_istore (q := 12) dL_sums_10 (Nat.le_of_ble_eq_true rfl) (xone_of rfl) rfl ?_
  refine r_iconst (q := 13) (v := 0) dL_sums_12 rfl rfl ?_
  refine r_istore (q := 15) dL_sums_13 (Nat.le_of_ble_eq_true rfl) (xone_of rfl) rfl ?_
  refine r_iconst (q := 16) (v := 0) dL_sums_15 rfl rfl ?_
  refine r_istore (q := 18) dL_sums_16 (Nat.le_of_ble_eq_true rfl) (xone_of rfl) rfl ?_
  refine sm_f J D (fun u k n o8 o9 o10 o11 H X hk hn => ?_) (n1 (h.1 0)) 0 w 0 0 none none none none (by omega) H FX.id (by omega) (by omega)
  refine r_iconst (q := 300) (v := 0) dL_sums_299 rfl rfl ?_
  refine r_istore (q := 302) dL_sums_300 (Nat.le_of_ble_eq_true rfl) (xone_of rfl) rfl ?_
  refine r_iconst (q := 303) (v := 0) dL_sums_302 rfl rfl ?_
  refine r_istore (q := 305) dL_sums_303 (Nat.le_of_ble_eq_true rfl) (xone_of rfl) rfl ?_
  refine sm_h J (fun u k n o9 o10 o11 H X hk hn => ?_) (n3 (h.1 0)) 0 u k n _ _ _ (by omega) H X (by omega) (by omega)
  refine r_iconst (q := 384) (v := 0) dL_sums_383 rfl rfl ?_
  refine r_istore (q := 386) dL_sums_384 (Nat.le_of_ble_eq_true rfl) (xone_of rfl) rfl ?_
  refine r_iconst (q := 387) (v := 0) dL_sums_386 rfl rfl ?_
  refine r_istore (q := 389) dL_sums_387 (Nat.le_of_ble_eq_true rfl) (xone_of rfl) rfl ?_
  refine r_iconst (q := 390) (v := 0) dL_sums_389 rfl rfl ?_
  refine r_istore (q := 392) dL_sums_390 (Nat.le_of_ble_eq_true rfl) (xone_of rfl) rfl ?_
  exact sm_i J (fun u k n o11 H X hk hn => sm_m J G hm hK H X hk hn hp) (n2 (h.1 0)) 0 u k n _ (by omega) H X (by omega) (by omega)
