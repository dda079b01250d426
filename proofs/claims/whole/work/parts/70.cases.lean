/-! ===== 70.cases: the law's cases, one by one (rows laid by wip/whole/gen/make69.py) ===== -/
set_option maxRecDepth 100000 in
set_option maxHeartbeats 4000000 in
theorem lc_tub {E : xE} {Po : xPo} {w0 w : xW} {x K I k n : Nat} {h : xHi} {d : xCo} {r : mRs} {o : Nat → Int32} {t : mTx} (S : LWS E w x K h d r o t) (hK : K + 15000 < 16000000) (hk : k + 40 ≤ 603072) (hn : n + 4000 ≤ 7227498) (hI : I + 2 < E.2.2.2.1) (hE : E.2.2.2.1 < 100000) (kx : ∀ u h2 d2 r2 o2 t2, LWS E u x (K + 15000) h2 d2 r2 o2 t2 → WF M_L_law E Po w0 2259 (LL E x I) [] u (k + 40) (n + 4000)) : WF M_L_law E Po w0 204 (LL E x I) [] w k n := by
  obtain ⟨S0, SA, I9⟩ := S
  obtain ⟨k9, v, v2, Qh, Qo, hk9, hv, c1, c2, c3⟩ := pr_tub (E := E) (x := x) (m := x + 331) (z := E.2.2.2.2 (nI I + 1).toNatClampNeg) I9 hK w S0.1
  obtain ⟨f0, hA⟩ := id SA.1
  refine r_aload_n (q := 205) dL_law_204 rfl rfl rfl ?_
  refine r_aload_n (q := 206) dL_law_205 rfl rfl rfl ?_
  refine r_iload (q := 208) dL_law_206 rfl rfl ?_
  refine r_iconst (q := 209) (v := 1) dL_law_208 rfl rfl ?_
  refine r_iadd (q := 210) dL_law_209 rfl ?_
  refine r_sld (q := 211) dL_law_210 (vi1 hI hE) rfl ?_
  refine r_aload_n (q := 212) dL_law_211 rfl rfl rfl ?_
  refine r_callSH (q := 215) (As := [_, _, _]) dL_law_212 s_L_law_136 rfl rfl (Nat.le_of_ble_eq_true rfl) rfl rfl rfl (Nat.le_trans (Nat.add_le_add_left (Nat.le_of_ble_eq_true rfl) k) hk) (Nat.le_trans (Nat.add_le_add_left (Nat.le_of_ble_eq_true rfl) n) hn) ⟨Nat.le_trans (Nat.add_le_add_left (Nat.le_of_ble_eq_true rfl) k) hk, Nat.le_trans (Nat.add_le_add_left (Nat.le_of_ble_eq_true rfl) n) hn⟩ rfl ?_
  refine ct_L_tub S0.1 hA (ls_ax S0.2.2.1 (by omega) (by omega)) (by have := S0.2.2.2; omega) hk9 c1 (fun u h2 q1 q2 q3 q4 => ?_)
  refine tw_join (Pp := xNext M_L_law E Po w0 215 (LL E x I) [] _ _) S0 SA q2 q3 q4 (fun u2 T => ?_)
  show WF M_L_law E Po w0 215 (LL E x I) [.int (nI k9)] u2 _ _
  refine WF.wide (k2 := k + 40) (n2 := n + 4000) ?_ (Nat.add_le_add_left (Nat.le_of_ble_eq_true rfl) k) (Nat.add_le_add_left (Nat.le_of_ble_eq_true rfl) n)
  refine r_istore (q := 217) dL_law_215 (Nat.le_of_ble_eq_true rfl) (xone_of rfl) rfl ?_
  refine WF.cw (md_of T.1.2.1).symm ?_
  refine r_aload_n (q := 218) dL_law_217 rfl rfl rfl ?_
  refine r_aload_n (q := 219) dL_law_218 rfl rfl rfl ?_
  refine r_iload (q := 221) dL_law_219 rfl rfl ?_
  refine r_iconst (q := 222) (v := 1) dL_law_221 rfl rfl ?_
  refine r_iadd (q := 223) dL_law_222 rfl ?_
  refine r_sld (q := 224) dL_law_223 (vi1 hI hE) rfl ?_
  refine r_callV (q := 227) (ci := 12) (As := [_]) dL_law_224 s_L_law_141 md_g0 rfl rfl rfl (Nat.le_of_ble_eq_true rfl) rfl rfl rfl hk hn ⟨hk, hn⟩ rfl ?_
  refine c2 _ _ (fun d2 r2 o2 t2 qo => ?_)
  obtain ⟨I2, e2⟩ := c3 h2 d2 r2 o2 t2 q1 qo
  show WF M_L_law E Po w0 227 _ [.int v2] _ _ _
  refine r_istore (q := 229) dL_law_227 (Nat.le_of_ble_eq_true rfl) (xone_of rfl) rfl ?_
  refine r_aload_n (q := 230) dL_law_229 rfl rfl rfl ?_
  refine r_callV (q := 233) (ci := 12) (As := []) dL_law_230 s_L_law_142 md_g0 rfl rfl rfl (Nat.le_of_ble_eq_true rfl) rfl rfl rfl hk hn ⟨hk, hn⟩ rfl ?_
  refine ct_X10_thrown ?_
  show WF M_L_law E Po w0 233 _ [.int (o2 2)] _ _ _
  rw [e2]
  refine r_iload (q := 235) dL_law_233 rfl rfl ?_
  refine r_icmp_eq (q := 240) (q2 := 238) dL_law_235 (by decide) rfl (fun _ => ?_) (fun h9 => absurd rfl h9)
  refine r_iload (q := 242) dL_law_240 rfl rfl ?_
  obtain ⟨TW0, TWA, f, hf, hfv⟩ := T
  have key : WF M_L_law E Po w0 257 (((LL E x I).set 6 (some (.int (nI k9)))).set 7 (some (.int v2))) [] (md E u2 (x + 331) d2 r2 o2 t2) (k + 40) (n + 4000) := by
    refine r_goto (q := 2259) dL_law_257 (by decide) ?_
    refine WF.drop 6 (WF.drop 7 ?_)
    exact kx _ h2 d2 r2 o2 t2 ⟨TW0.md, TWA.md, I2⟩
  refine r_if_ne (q := 257) (q2 := 245) dL_law_242 (by decide) rfl (fun _ => key) (fun h9 => ?_)
  have k0 : k9 = 0 := nI_inj (b := 0) (by have : k9 ≤ 2 := hk9; omega) (by decide) h9
  refine r_aload_n (q := 246) dL_law_245 rfl rfl rfl ?_
  refine r_iconst (q := 247) (v := 0) dL_law_246 rfl rfl ?_
  refine r_laload (q := 248) dL_law_247 ((md_out (Or.inr (by omega))).trans hf) (show vp_in 0 1 from vp_in_nI (n := 0) (by decide) (by decide)) rfl ?_
  refine r_iload (q := 250) dL_law_248 rfl rfl ?_
  refine r_i2l (q := 251) dL_law_250 rfl ?_
  refine r_lcmp (q := 252) dL_law_251 rfl ?_
  rw [show lg_cmp (f (0 : Int32).toNatClampNeg) v2.toInt64 = 0 from by rw [show f (0 : Int32).toNatClampNeg = v.toInt64 from hfv k0, hv k0, lcmp_s]]
  exact r_if_eq (q := 257) (q2 := 255) dL_law_252 (by decide) rfl (fun _ => key) (fun h9 => absurd rfl h9)
set_option maxRecDepth 100000 in
set_option maxHeartbeats 4000000 in
theorem lc_tubOf {E : xE} {Po : xPo} {w0 w : xW} {x K I k n : Nat} {h : xHi} {d : xCo} {r : mRs} {o : Nat → Int32} {t : mTx} (S : LWS E w x K h d r o t) (hK : K + 15000 < 16000000) (hk : k + 40 ≤ 603072) (hn : n + 4000 ≤ 7227498) (hI : I + 2 < E.2.2.2.1) (hE : E.2.2.2.1 < 100000) (kx : ∀ u h2 d2 r2 o2 t2, LWS E u x (K + 15000) h2 d2 r2 o2 t2 → WF M_L_law E Po w0 2259 (LL E x I) [] u (k + 40) (n + 4000)) : WF M_L_law E Po w0 260 (LL E x I) [] w k n := by
  obtain ⟨S0, SA, I9⟩ := S
  obtain ⟨k9, v, v2, Qh, Qo, hk9, hv, c1, c2, c3⟩ := pr_tubOf (E := E) (x := x) (m := x + 331) (z := E.2.2.2.2 (nI I + 1).toNatClampNeg) (y := E.2.2.2.2 (nI I + 2).toNatClampNeg) I9 w S0.1
  obtain ⟨f0, hA⟩ := id SA.1
  refine r_aload_n (q := 261) dL_law_260 rfl rfl rfl ?_
  refine r_aload_n (q := 262) dL_law_261 rfl rfl rfl ?_
  refine r_iload (q := 264) dL_law_262 rfl rfl ?_
  refine r_iconst (q := 265) (v := 1) dL_law_264 rfl rfl ?_
  refine r_iadd (q := 266) dL_law_265 rfl ?_
  refine r_sld (q := 267) dL_law_266 (vi1 hI hE) rfl ?_
  refine r_aload_n (q := 268) dL_law_267 rfl rfl rfl ?_
  refine r_iload (q := 270) dL_law_268 rfl rfl ?_
  refine r_iconst (q := 271) (v := 2) dL_law_270 rfl rfl ?_
  refine r_iadd (q := 272) dL_law_271 rfl ?_
  refine r_sld (q := 273) dL_law_272 (vi2 hI hE) rfl ?_
  refine r_aload_n (q := 274) dL_law_273 rfl rfl rfl ?_
  refine r_callSH (q := 277) (As := [_, _, _, _]) dL_law_274 s_L_law_145 rfl rfl (Nat.le_of_ble_eq_true rfl) rfl rfl rfl (Nat.le_trans (Nat.add_le_add_left (Nat.le_of_ble_eq_true rfl) k) hk) (Nat.le_trans (Nat.add_le_add_left (Nat.le_of_ble_eq_true rfl) n) hn) ⟨Nat.le_trans (Nat.add_le_add_left (Nat.le_of_ble_eq_true rfl) k) hk, Nat.le_trans (Nat.add_le_add_left (Nat.le_of_ble_eq_true rfl) n) hn⟩ rfl ?_
  refine ct_L_tubOf S0.1 hA (ls_ax S0.2.2.1 (by omega) (by omega)) (by have := S0.2.2.2; omega) hk9 c1 (fun u h2 q1 q2 q3 q4 => ?_)
  refine tw_join (Pp := xNext M_L_law E Po w0 277 (LL E x I) [] _ _) S0 SA q2 q3 q4 (fun u2 T => ?_)
  show WF M_L_law E Po w0 277 (LL E x I) [.int (nI k9)] u2 _ _
  refine WF.wide (k2 := k + 40) (n2 := n + 4000) ?_ (Nat.add_le_add_left (Nat.le_of_ble_eq_true rfl) k) (Nat.add_le_add_left (Nat.le_of_ble_eq_true rfl) n)
  refine r_istore (q := 279) dL_law_277 (Nat.le_of_ble_eq_true rfl) (xone_of rfl) rfl ?_
  refine WF.cw (md_of T.1.2.1).symm ?_
  refine r_aload_n (q := 280) dL_law_279 rfl rfl rfl ?_
  refine r_aload_n (q := 281) dL_law_280 rfl rfl rfl ?_
  refine r_iload (q := 283) dL_law_281 rfl rfl ?_
  refine r_iconst (q := 284) (v := 1) dL_law_283 rfl rfl ?_
  refine r_iadd (q := 285) dL_law_284 rfl ?_
  refine r_sld (q := 286) dL_law_285 (vi1 hI hE) rfl ?_
  refine r_aload_n (q := 287) dL_law_286 rfl rfl rfl ?_
  refine r_iload (q := 289) dL_law_287 rfl rfl ?_
  refine r_iconst (q := 290) (v := 2) dL_law_289 rfl rfl ?_
  refine r_iadd (q := 291) dL_law_290 rfl ?_
  refine r_sld (q := 292) dL_law_291 (vi2 hI hE) rfl ?_
  refine r_callV (q := 295) (ci := 12) (As := [_, _]) dL_law_292 s_L_law_148 md_g0 rfl rfl rfl (Nat.le_of_ble_eq_true rfl) rfl rfl rfl hk hn ⟨hk, hn⟩ rfl ?_
  refine c2 _ _ (fun d2 r2 o2 t2 qo => ?_)
  obtain ⟨I2, e2⟩ := c3 h2 d2 r2 o2 t2 q1 qo
  show WF M_L_law E Po w0 295 _ [.int v2] _ _ _
  refine r_istore (q := 297) dL_law_295 (Nat.le_of_ble_eq_true rfl) (xone_of rfl) rfl ?_
  refine r_aload_n (q := 298) dL_law_297 rfl rfl rfl ?_
  refine r_callV (q := 301) (ci := 12) (As := []) dL_law_298 s_L_law_142 md_g0 rfl rfl rfl (Nat.le_of_ble_eq_true rfl) rfl rfl rfl hk hn ⟨hk, hn⟩ rfl ?_
  refine ct_X10_thrown ?_
  show WF M_L_law E Po w0 301 _ [.int (o2 2)] _ _ _
  rw [e2]
  refine r_iload (q := 303) dL_law_301 rfl rfl ?_
  refine r_icmp_eq (q := 308) (q2 := 306) dL_law_303 (by decide) rfl (fun _ => ?_) (fun h9 => absurd rfl h9)
  refine r_iload (q := 310) dL_law_308 rfl rfl ?_
  obtain ⟨TW0, TWA, f, hf, hfv⟩ := T
  have key : WF M_L_law E Po w0 325 (((LL E x I).set 6 (some (.int (nI k9)))).set 7 (some (.int v2))) [] (md E u2 (x + 331) d2 r2 o2 t2) (k + 40) (n + 4000) := by
    refine r_goto (q := 2259) dL_law_325 (by decide) ?_
    refine WF.drop 6 (WF.drop 7 ?_)
    exact kx _ h2 d2 r2 o2 t2 ⟨TW0.md, TWA.md, I2⟩
  refine r_if_ne (q := 325) (q2 := 313) dL_law_310 (by decide) rfl (fun _ => key) (fun h9 => ?_)
  have k0 : k9 = 0 := nI_inj (b := 0) (by have : k9 ≤ 2 := hk9; omega) (by decide) h9
  refine r_aload_n (q := 314) dL_law_313 rfl rfl rfl ?_
  refine r_iconst (q := 315) (v := 0) dL_law_314 rfl rfl ?_
  refine r_laload (q := 316) dL_law_315 ((md_out (Or.inr (by omega))).trans hf) (show vp_in 0 1 from vp_in_nI (n := 0) (by decide) (by decide)) rfl ?_
  refine r_iload (q := 318) dL_law_316 rfl rfl ?_
  refine r_i2l (q := 319) dL_law_318 rfl ?_
  refine r_lcmp (q := 320) dL_law_319 rfl ?_
  rw [show lg_cmp (f (0 : Int32).toNatClampNeg) v2.toInt64 = 0 from by rw [show f (0 : Int32).toNatClampNeg = v.toInt64 from hfv k0, hv k0, lcmp_s]]
  exact r_if_eq (q := 325) (q2 := 323) dL_law_320 (by decide) rfl (fun _ => key) (fun h9 => absurd rfl h9)
set_option maxRecDepth 100000 in
set_option maxHeartbeats 4000000 in
theorem lc_torn {E : xE} {Po : xPo} {w0 w : xW} {x K I k n : Nat} {h : xHi} {d : xCo} {r : mRs} {o : Nat → Int32} {t : mTx} (S : LWS E w x K h d r o t) (hK : K + 15000 < 16000000) (hk : k + 40 ≤ 603072) (hn : n + 4000 ≤ 7227498) (hI : I + 2 < E.2.2.2.1) (hE : E.2.2.2.1 < 100000) (kx : ∀ u h2 d2 r2 o2 t2, LWS E u x (K + 15000) h2 d2 r2 o2 t2 → WF M_L_law E Po w0 2259 (LL E x I) [] u (k + 40) (n + 4000)) : WF M_L_law E Po w0 328 (LL E x I) [] w k n := by
  obtain ⟨S0, SA, I9⟩ := S
  obtain ⟨k9, v, v2, Qh, Qo, hk9, hv, c1, c2, c3⟩ := pr_torn (E := E) (x := x) (m := x + 331) (z := E.2.2.2.2 (nI I + 1).toNatClampNeg) (y := E.2.2.2.2 (nI I + 2).toNatClampNeg) I9 w S0.1
  obtain ⟨f0, hA⟩ := id SA.1
  refine r_aload_n (q := 329) dL_law_328 rfl rfl rfl ?_
  refine r_aload_n (q := 330) dL_law_329 rfl rfl rfl ?_
  refine r_iload (q := 332) dL_law_330 rfl rfl ?_
  refine r_iconst (q := 333) (v := 1) dL_law_332 rfl rfl ?_
  refine r_iadd (q := 334) dL_law_333 rfl ?_
  refine r_sld (q := 335) dL_law_334 (vi1 hI hE) rfl ?_
  refine r_aload_n (q := 336) dL_law_335 rfl rfl rfl ?_
  refine r_iload (q := 338) dL_law_336 rfl rfl ?_
  refine r_iconst (q := 339) (v := 2) dL_law_338 rfl rfl ?_
  refine r_iadd (q := 340) dL_law_339 rfl ?_
  refine r_sld (q := 341) dL_law_340 (vi2 hI hE) rfl ?_
  refine r_aload_n (q := 342) dL_law_341 rfl rfl rfl ?_
  refine r_callSH (q := 345) (As := [_, _, _, _]) dL_law_342 s_L_law_149 rfl rfl (Nat.le_of_ble_eq_true rfl) rfl rfl rfl (Nat.le_trans (Nat.add_le_add_left (Nat.le_of_ble_eq_true rfl) k) hk) (Nat.le_trans (Nat.add_le_add_left (Nat.le_of_ble_eq_true rfl) n) hn) ⟨Nat.le_trans (Nat.add_le_add_left (Nat.le_of_ble_eq_true rfl) k) hk, Nat.le_trans (Nat.add_le_add_left (Nat.le_of_ble_eq_true rfl) n) hn⟩ rfl ?_
  refine ct_L_torn S0.1 hA (ls_ax S0.2.2.1 (by omega) (by omega)) (by have := S0.2.2.2; omega) hk9 c1 (fun u h2 q1 q2 q3 q4 => ?_)
  refine tw_join (Pp := xNext M_L_law E Po w0 345 (LL E x I) [] _ _) S0 SA q2 q3 q4 (fun u2 T => ?_)
  show WF M_L_law E Po w0 345 (LL E x I) [.int (nI k9)] u2 _ _
  refine WF.wide (k2 := k + 40) (n2 := n + 4000) ?_ (Nat.add_le_add_left (Nat.le_of_ble_eq_true rfl) k) (Nat.add_le_add_left (Nat.le_of_ble_eq_true rfl) n)
  refine r_istore (q := 347) dL_law_345 (Nat.le_of_ble_eq_true rfl) (xone_of rfl) rfl ?_
  refine WF.cw (md_of T.1.2.1).symm ?_
  refine r_aload_n (q := 348) dL_law_347 rfl rfl rfl ?_
  refine r_aload_n (q := 349) dL_law_348 rfl rfl rfl ?_
  refine r_iload (q := 351) dL_law_349 rfl rfl ?_
  refine r_iconst (q := 352) (v := 1) dL_law_351 rfl rfl ?_
  refine r_iadd (q := 353) dL_law_352 rfl ?_
  refine r_sld (q := 354) dL_law_353 (vi1 hI hE) rfl ?_
  refine r_aload_n (q := 355) dL_law_354 rfl rfl rfl ?_
  refine r_iload (q := 357) dL_law_355 rfl rfl ?_
  refine r_iconst (q := 358) (v := 2) dL_law_357 rfl rfl ?_
  refine r_iadd (q := 359) dL_law_358 rfl ?_
  refine r_sld (q := 360) dL_law_359 (vi2 hI hE) rfl ?_
  refine r_callV (q := 363) (ci := 12) (As := [_, _]) dL_law_360 s_L_law_151 md_g0 rfl rfl rfl (Nat.le_of_ble_eq_true rfl) rfl rfl rfl hk hn ⟨hk, hn⟩ rfl ?_
  refine c2 _ _ (fun d2 r2 o2 t2 qo => ?_)
  obtain ⟨I2, e2⟩ := c3 h2 d2 r2 o2 t2 q1 qo
  show WF M_L_law E Po w0 363 _ [.int v2] _ _ _
  refine r_istore (q := 365) dL_law_363 (Nat.le_of_ble_eq_true rfl) (xone_of rfl) rfl ?_
  refine r_aload_n (q := 366) dL_law_365 rfl rfl rfl ?_
  refine r_callV (q := 369) (ci := 12) (As := []) dL_law_366 s_L_law_142 md_g0 rfl rfl rfl (Nat.le_of_ble_eq_true rfl) rfl rfl rfl hk hn ⟨hk, hn⟩ rfl ?_
  refine ct_X10_thrown ?_
  show WF M_L_law E Po w0 369 _ [.int (o2 2)] _ _ _
  rw [e2]
  refine r_iload (q := 371) dL_law_369 rfl rfl ?_
  refine r_icmp_eq (q := 376) (q2 := 374) dL_law_371 (by decide) rfl (fun _ => ?_) (fun h9 => absurd rfl h9)
  refine r_iload (q := 378) dL_law_376 rfl rfl ?_
  obtain ⟨TW0, TWA, f, hf, hfv⟩ := T
  have key : WF M_L_law E Po w0 393 (((LL E x I).set 6 (some (.int (nI k9)))).set 7 (some (.int v2))) [] (md E u2 (x + 331) d2 r2 o2 t2) (k + 40) (n + 4000) := by
    refine r_goto (q := 2259) dL_law_393 (by decide) ?_
    refine WF.drop 6 (WF.drop 7 ?_)
    exact kx _ h2 d2 r2 o2 t2 ⟨TW0.md, TWA.md, I2⟩
  refine r_if_ne (q := 393) (q2 := 381) dL_law_378 (by decide) rfl (fun _ => key) (fun h9 => ?_)
  have k0 : k9 = 0 := nI_inj (b := 0) (by have : k9 ≤ 2 := hk9; omega) (by decide) h9
  refine r_aload_n (q := 382) dL_law_381 rfl rfl rfl ?_
  refine r_iconst (q := 383) (v := 0) dL_law_382 rfl rfl ?_
  refine r_laload (q := 384) dL_law_383 ((md_out (Or.inr (by omega))).trans hf) (show vp_in 0 1 from vp_in_nI (n := 0) (by decide) (by decide)) rfl ?_
  refine r_iload (q := 386) dL_law_384 rfl rfl ?_
  refine r_i2l (q := 387) dL_law_386 rfl ?_
  refine r_lcmp (q := 388) dL_law_387 rfl ?_
  rw [show lg_cmp (f (0 : Int32).toNatClampNeg) v2.toInt64 = 0 from by rw [show f (0 : Int32).toNatClampNeg = v.toInt64 from hfv k0, hv k0, lcmp_s]]
  exact r_if_eq (q := 393) (q2 := 391) dL_law_388 (by decide) rfl (fun _ => key) (fun h9 => absurd rfl h9)
set_option maxRecDepth 100000 in
set_option maxHeartbeats 4000000 in
theorem lc_tear {E : xE} {Po : xPo} {w0 w : xW} {x K I k n : Nat} {h : xHi} {d : xCo} {r : mRs} {o : Nat → Int32} {t : mTx} (S : LWS E w x K h d r o t) (hK : K + 15000 < 16000000) (hk : k + 40 ≤ 603072) (hn : n + 4000 ≤ 7227498) (hI : I + 2 < E.2.2.2.1) (hE : E.2.2.2.1 < 100000) (kx : ∀ u h2 d2 r2 o2 t2, LWS E u x (K + 15000) h2 d2 r2 o2 t2 → WF M_L_law E Po w0 2259 (LL E x I) [] u (k + 40) (n + 4000)) : WF M_L_law E Po w0 396 (LL E x I) [] w k n := by
  obtain ⟨S0, SA, I9⟩ := S
  obtain ⟨k9, v, v2, Qh, Qo, hk9, hv, c1, c2, c3⟩ := pr_tear (E := E) (x := x) (m := x + 331) (y := E.2.2.2.2 (nI I + 1).toNatClampNeg) (s := E.2.2.2.2 (nI I + 2).toNatClampNeg) I9 hK w S0.1
  obtain ⟨f0, hA⟩ := id SA.1
  refine r_aload_n (q := 397) dL_law_396 rfl rfl rfl ?_
  refine r_aload_n (q := 398) dL_law_397 rfl rfl rfl ?_
  refine r_iload (q := 400) dL_law_398 rfl rfl ?_
  refine r_iconst (q := 401) (v := 1) dL_law_400 rfl rfl ?_
  refine r_iadd (q := 402) dL_law_401 rfl ?_
  refine r_sld (q := 403) dL_law_402 (vi1 hI hE) rfl ?_
  refine r_aload_n (q := 404) dL_law_403 rfl rfl rfl ?_
  refine r_iload (q := 406) dL_law_404 rfl rfl ?_
  refine r_iconst (q := 407) (v := 2) dL_law_406 rfl rfl ?_
  refine r_iadd (q := 408) dL_law_407 rfl ?_
  refine r_sld (q := 409) dL_law_408 (vi2 hI hE) rfl ?_
  refine r_aload_n (q := 410) dL_law_409 rfl rfl rfl ?_
  refine r_callSH (q := 413) (As := [_, _, _, _]) dL_law_410 s_L_law_152 rfl rfl (Nat.le_of_ble_eq_true rfl) rfl rfl rfl (Nat.le_trans (Nat.add_le_add_left (Nat.le_of_ble_eq_true rfl) k) hk) (Nat.le_trans (Nat.add_le_add_left (Nat.le_of_ble_eq_true rfl) n) hn) ⟨Nat.le_trans (Nat.add_le_add_left (Nat.le_of_ble_eq_true rfl) k) hk, Nat.le_trans (Nat.add_le_add_left (Nat.le_of_ble_eq_true rfl) n) hn⟩ rfl ?_
  refine ct_L_tear S0.1 hA (ls_ax S0.2.2.1 (by omega) (by omega)) (by have := S0.2.2.2; omega) hk9 c1 (fun u h2 q1 q2 q3 q4 => ?_)
  refine tw_join (Pp := xNext M_L_law E Po w0 413 (LL E x I) [] _ _) S0 SA q2 q3 q4 (fun u2 T => ?_)
  show WF M_L_law E Po w0 413 (LL E x I) [.int (nI k9)] u2 _ _
  refine WF.wide (k2 := k + 40) (n2 := n + 4000) ?_ (Nat.add_le_add_left (Nat.le_of_ble_eq_true rfl) k) (Nat.add_le_add_left (Nat.le_of_ble_eq_true rfl) n)
  refine r_istore (q := 415) dL_law_413 (Nat.le_of_ble_eq_true rfl) (xone_of rfl) rfl ?_
  refine WF.cw (md_of T.1.2.1).symm ?_
  refine r_aload_n (q := 416) dL_law_415 rfl rfl rfl ?_
  refine r_aload_n (q := 417) dL_law_416 rfl rfl rfl ?_
  refine r_iload (q := 419) dL_law_417 rfl rfl ?_
  refine r_iconst (q := 420) (v := 1) dL_law_419 rfl rfl ?_
  refine r_iadd (q := 421) dL_law_420 rfl ?_
  refine r_sld (q := 422) dL_law_421 (vi1 hI hE) rfl ?_
  refine r_aload_n (q := 423) dL_law_422 rfl rfl rfl ?_
  refine r_iload (q := 425) dL_law_423 rfl rfl ?_
  refine r_iconst (q := 426) (v := 2) dL_law_425 rfl rfl ?_
  refine r_iadd (q := 427) dL_law_426 rfl ?_
  refine r_sld (q := 428) dL_law_427 (vi2 hI hE) rfl ?_
  refine r_callV (q := 431) (ci := 12) (As := [_, _]) dL_law_428 s_L_law_154 md_g0 rfl rfl rfl (Nat.le_of_ble_eq_true rfl) rfl rfl rfl hk hn ⟨hk, hn⟩ rfl ?_
  refine c2 _ _ (fun d2 r2 o2 t2 qo => ?_)
  obtain ⟨I2, e2⟩ := c3 h2 d2 r2 o2 t2 q1 qo
  show WF M_L_law E Po w0 431 _ [.int v2] _ _ _
  refine r_istore (q := 433) dL_law_431 (Nat.le_of_ble_eq_true rfl) (xone_of rfl) rfl ?_
  refine r_aload_n (q := 434) dL_law_433 rfl rfl rfl ?_
  refine r_callV (q := 437) (ci := 12) (As := []) dL_law_434 s_L_law_142 md_g0 rfl rfl rfl (Nat.le_of_ble_eq_true rfl) rfl rfl rfl hk hn ⟨hk, hn⟩ rfl ?_
  refine ct_X10_thrown ?_
  show WF M_L_law E Po w0 437 _ [.int (o2 2)] _ _ _
  rw [e2]
  refine r_iload (q := 439) dL_law_437 rfl rfl ?_
  refine r_icmp_eq (q := 444) (q2 := 442) dL_law_439 (by decide) rfl (fun _ => ?_) (fun h9 => absurd rfl h9)
  refine r_iload (q := 446) dL_law_444 rfl rfl ?_
  obtain ⟨TW0, TWA, f, hf, hfv⟩ := T
  have key : WF M_L_law E Po w0 461 (((LL E x I).set 6 (some (.int (nI k9)))).set 7 (some (.int v2))) [] (md E u2 (x + 331) d2 r2 o2 t2) (k + 40) (n + 4000) := by
    refine r_goto (q := 2259) dL_law_461 (by decide) ?_
    refine WF.drop 6 (WF.drop 7 ?_)
    exact kx _ h2 d2 r2 o2 t2 ⟨TW0.md, TWA.md, I2⟩
  refine r_if_ne (q := 461) (q2 := 449) dL_law_446 (by decide) rfl (fun _ => key) (fun h9 => ?_)
  have k0 : k9 = 0 := nI_inj (b := 0) (by have : k9 ≤ 1 := hk9; omega) (by decide) h9
  refine r_aload_n (q := 450) dL_law_449 rfl rfl rfl ?_
  refine r_iconst (q := 451) (v := 0) dL_law_450 rfl rfl ?_
  refine r_laload (q := 452) dL_law_451 ((md_out (Or.inr (by omega))).trans hf) (show vp_in 0 1 from vp_in_nI (n := 0) (by decide) (by decide)) rfl ?_
  refine r_iload (q := 454) dL_law_452 rfl rfl ?_
  refine r_i2l (q := 455) dL_law_454 rfl ?_
  refine r_lcmp (q := 456) dL_law_455 rfl ?_
  rw [show lg_cmp (f (0 : Int32).toNatClampNeg) v2.toInt64 = 0 from by rw [show f (0 : Int32).toNatClampNeg = v.toInt64 from hfv k0, hv k0, lcmp_s]]
  exact r_if_eq (q := 461) (q2 := 459) dL_law_456 (by decide) rfl (fun _ => key) (fun h9 => absurd rfl h9)
set_option maxRecDepth 100000 in
set_option maxHeartbeats 4000000 in
theorem lc_mend {E : xE} {Po : xPo} {w0 w : xW} {x K I k n : Nat} {h : xHi} {d : xCo} {r : mRs} {o : Nat → Int32} {t : mTx} (S : LWS E w x K h d r o t) (hK : K + 15000 < 16000000) (hk : k + 40 ≤ 603072) (hn : n + 4000 ≤ 7227498) (hI : I + 2 < E.2.2.2.1) (hE : E.2.2.2.1 < 100000) (kx : ∀ u h2 d2 r2 o2 t2, LWS E u x (K + 15000) h2 d2 r2 o2 t2 → WF M_L_law E Po w0 2259 (LL E x I) [] u (k + 40) (n + 4000)) : WF M_L_law E Po w0 464 (LL E x I) [] w k n := by
  obtain ⟨S0, SA, I9⟩ := S
  obtain ⟨k9, v, v2, Qh, Qo, hk9, hv, c1, c2, c3⟩ := pr_mend (E := E) (x := x) (m := x + 331) (y := E.2.2.2.2 (nI I + 1).toNatClampNeg) (s := E.2.2.2.2 (nI I + 2).toNatClampNeg) I9 hK w S0.1
  obtain ⟨f0, hA⟩ := id SA.1
  refine r_aload_n (q := 465) dL_law_464 rfl rfl rfl ?_
  refine r_aload_n (q := 466) dL_law_465 rfl rfl rfl ?_
  refine r_iload (q := 468) dL_law_466 rfl rfl ?_
  refine r_iconst (q := 469) (v := 1) dL_law_468 rfl rfl ?_
  refine r_iadd (q := 470) dL_law_469 rfl ?_
  refine r_sld (q := 471) dL_law_470 (vi1 hI hE) rfl ?_
  refine r_aload_n (q := 472) dL_law_471 rfl rfl rfl ?_
  refine r_iload (q := 474) dL_law_472 rfl rfl ?_
  refine r_iconst (q := 475) (v := 2) dL_law_474 rfl rfl ?_
  refine r_iadd (q := 476) dL_law_475 rfl ?_
  refine r_sld (q := 477) dL_law_476 (vi2 hI hE) rfl ?_
  refine r_aload_n (q := 478) dL_law_477 rfl rfl rfl ?_
  refine r_callSH (q := 481) (As := [_, _, _, _]) dL_law_478 s_L_law_155 rfl rfl (Nat.le_of_ble_eq_true rfl) rfl rfl rfl (Nat.le_trans (Nat.add_le_add_left (Nat.le_of_ble_eq_true rfl) k) hk) (Nat.le_trans (Nat.add_le_add_left (Nat.le_of_ble_eq_true rfl) n) hn) ⟨Nat.le_trans (Nat.add_le_add_left (Nat.le_of_ble_eq_true rfl) k) hk, Nat.le_trans (Nat.add_le_add_left (Nat.le_of_ble_eq_true rfl) n) hn⟩ rfl ?_
  refine ct_L_mend S0.1 hA (ls_ax S0.2.2.1 (by omega) (by omega)) (by have := S0.2.2.2; omega) hk9 c1 (fun u h2 q1 q2 q3 q4 => ?_)
  refine tw_join (Pp := xNext M_L_law E Po w0 481 (LL E x I) [] _ _) S0 SA q2 q3 q4 (fun u2 T => ?_)
  show WF M_L_law E Po w0 481 (LL E x I) [.int (nI k9)] u2 _ _
  refine WF.wide (k2 := k + 40) (n2 := n + 4000) ?_ (Nat.add_le_add_left (Nat.le_of_ble_eq_true rfl) k) (Nat.add_le_add_left (Nat.le_of_ble_eq_true rfl) n)
  refine r_istore (q := 483) dL_law_481 (Nat.le_of_ble_eq_true rfl) (xone_of rfl) rfl ?_
  refine WF.cw (md_of T.1.2.1).symm ?_
  refine r_aload_n (q := 484) dL_law_483 rfl rfl rfl ?_
  refine r_aload_n (q := 485) dL_law_484 rfl rfl rfl ?_
  refine r_iload (q := 487) dL_law_485 rfl rfl ?_
  refine r_iconst (q := 488) (v := 1) dL_law_487 rfl rfl ?_
  refine r_iadd (q := 489) dL_law_488 rfl ?_
  refine r_sld (q := 490) dL_law_489 (vi1 hI hE) rfl ?_
  refine r_aload_n (q := 491) dL_law_490 rfl rfl rfl ?_
  refine r_iload (q := 493) dL_law_491 rfl rfl ?_
  refine r_iconst (q := 494) (v := 2) dL_law_493 rfl rfl ?_
  refine r_iadd (q := 495) dL_law_494 rfl ?_
  refine r_sld (q := 496) dL_law_495 (vi2 hI hE) rfl ?_
  refine r_callV (q := 499) (ci := 12) (As := [_, _]) dL_law_496 s_L_law_157 md_g0 rfl rfl rfl (Nat.le_of_ble_eq_true rfl) rfl rfl rfl hk hn ⟨hk, hn⟩ rfl ?_
  refine c2 _ _ (fun d2 r2 o2 t2 qo => ?_)
  obtain ⟨I2, e2⟩ := c3 h2 d2 r2 o2 t2 q1 qo
  show WF M_L_law E Po w0 499 _ [.int v2] _ _ _
  refine r_istore (q := 501) dL_law_499 (Nat.le_of_ble_eq_true rfl) (xone_of rfl) rfl ?_
  refine r_aload_n (q := 502) dL_law_501 rfl rfl rfl ?_
  refine r_callV (q := 505) (ci := 12) (As := []) dL_law_502 s_L_law_142 md_g0 rfl rfl rfl (Nat.le_of_ble_eq_true rfl) rfl rfl rfl hk hn ⟨hk, hn⟩ rfl ?_
  refine ct_X10_thrown ?_
  show WF M_L_law E Po w0 505 _ [.int (o2 2)] _ _ _
  rw [e2]
  refine r_iload (q := 507) dL_law_505 rfl rfl ?_
  refine r_icmp_eq (q := 512) (q2 := 510) dL_law_507 (by decide) rfl (fun _ => ?_) (fun h9 => absurd rfl h9)
  refine r_iload (q := 514) dL_law_512 rfl rfl ?_
  obtain ⟨TW0, TWA, f, hf, hfv⟩ := T
  have key : WF M_L_law E Po w0 529 (((LL E x I).set 6 (some (.int (nI k9)))).set 7 (some (.int v2))) [] (md E u2 (x + 331) d2 r2 o2 t2) (k + 40) (n + 4000) := by
    refine r_goto (q := 2259) dL_law_529 (by decide) ?_
    refine WF.drop 6 (WF.drop 7 ?_)
    exact kx _ h2 d2 r2 o2 t2 ⟨TW0.md, TWA.md, I2⟩
  refine r_if_ne (q := 529) (q2 := 517) dL_law_514 (by decide) rfl (fun _ => key) (fun h9 => ?_)
  have k0 : k9 = 0 := nI_inj (b := 0) (by have : k9 ≤ 2 := hk9; omega) (by decide) h9
  refine r_aload_n (q := 518) dL_law_517 rfl rfl rfl ?_
  refine r_iconst (q := 519) (v := 0) dL_law_518 rfl rfl ?_
  refine r_laload (q := 520) dL_law_519 ((md_out (Or.inr (by omega))).trans hf) (show vp_in 0 1 from vp_in_nI (n := 0) (by decide) (by decide)) rfl ?_
  refine r_iload (q := 522) dL_law_520 rfl rfl ?_
  refine r_i2l (q := 523) dL_law_522 rfl ?_
  refine r_lcmp (q := 524) dL_law_523 rfl ?_
  rw [show lg_cmp (f (0 : Int32).toNatClampNeg) v2.toInt64 = 0 from by rw [show f (0 : Int32).toNatClampNeg = v.toInt64 from hfv k0, hv k0, lcmp_s]]
  exact r_if_eq (q := 529) (q2 := 527) dL_law_524 (by decide) rfl (fun _ => key) (fun h9 => absurd rfl h9)
set_option maxRecDepth 100000 in
set_option maxHeartbeats 4000000 in
theorem lc_bestTub {E : xE} {Po : xPo} {w0 w : xW} {x K I k n : Nat} {h : xHi} {d : xCo} {r : mRs} {o : Nat → Int32} {t : mTx} (S : LWS E w x K h d r o t) (hK : K + 15000 < 16000000) (hk : k + 40 ≤ 603072) (hn : n + 4000 ≤ 7227498) (hI : I + 2 < E.2.2.2.1) (hE : E.2.2.2.1 < 100000) (kx : ∀ u h2 d2 r2 o2 t2, LWS E u x (K + 15000) h2 d2 r2 o2 t2 → WF M_L_law E Po w0 2259 (LL E x I) [] u (k + 40) (n + 4000)) : WF M_L_law E Po w0 532 (LL E x I) [] w k n := by
  obtain ⟨S0, SA, I9⟩ := S
  obtain ⟨k9, v, v2, Qh, Qo, hk9, hv, c1, c2, c3⟩ := pr_bestTub (E := E) (x := x) (m := x + 331) I9 hK w S0.1
  obtain ⟨f0, hA⟩ := id SA.1
  refine r_aload_n (q := 533) dL_law_532 rfl rfl rfl ?_
  refine r_aload_n (q := 534) dL_law_533 rfl rfl rfl ?_
  refine r_callSH (q := 537) (As := [_, _]) dL_law_534 s_L_law_158 rfl rfl (Nat.le_of_ble_eq_true rfl) rfl rfl rfl (Nat.le_trans (Nat.add_le_add_left (Nat.le_of_ble_eq_true rfl) k) hk) (Nat.le_trans (Nat.add_le_add_left (Nat.le_of_ble_eq_true rfl) n) hn) ⟨Nat.le_trans (Nat.add_le_add_left (Nat.le_of_ble_eq_true rfl) k) hk, Nat.le_trans (Nat.add_le_add_left (Nat.le_of_ble_eq_true rfl) n) hn⟩ rfl ?_
  refine ct_L_bestTub S0.1 hA (ls_ax S0.2.2.1 (by omega) (by omega)) (by have := S0.2.2.2; omega) hk9 c1 (fun u h2 q1 q2 q3 q4 => ?_)
  refine tw_join (Pp := xNext M_L_law E Po w0 537 (LL E x I) [] _ _) S0 SA q2 q3 q4 (fun u2 T => ?_)
  show WF M_L_law E Po w0 537 (LL E x I) [.int (nI k9)] u2 _ _
  refine WF.wide (k2 := k + 40) (n2 := n + 4000) ?_ (Nat.add_le_add_left (Nat.le_of_ble_eq_true rfl) k) (Nat.add_le_add_left (Nat.le_of_ble_eq_true rfl) n)
  refine r_istore (q := 539) dL_law_537 (Nat.le_of_ble_eq_true rfl) (xone_of rfl) rfl ?_
  refine WF.cw (md_of T.1.2.1).symm ?_
  refine r_aload_n (q := 540) dL_law_539 rfl rfl rfl ?_
  refine r_callV (q := 543) (ci := 12) (As := []) dL_law_540 s_L_law_161 md_g0 rfl rfl rfl (Nat.le_of_ble_eq_true rfl) rfl rfl rfl hk hn ⟨hk, hn⟩ rfl ?_
  refine c2 _ _ (fun d2 r2 o2 t2 qo => ?_)
  obtain ⟨I2, e2⟩ := c3 h2 d2 r2 o2 t2 q1 qo
  show WF M_L_law E Po w0 543 _ [.int v2] _ _ _
  refine r_istore (q := 545) dL_law_543 (Nat.le_of_ble_eq_true rfl) (xone_of rfl) rfl ?_
  refine r_aload_n (q := 546) dL_law_545 rfl rfl rfl ?_
  refine r_callV (q := 549) (ci := 12) (As := []) dL_law_546 s_L_law_142 md_g0 rfl rfl rfl (Nat.le_of_ble_eq_true rfl) rfl rfl rfl hk hn ⟨hk, hn⟩ rfl ?_
  refine ct_X10_thrown ?_
  show WF M_L_law E Po w0 549 _ [.int (o2 2)] _ _ _
  rw [e2]
  refine r_iload (q := 551) dL_law_549 rfl rfl ?_
  refine r_icmp_eq (q := 556) (q2 := 554) dL_law_551 (by decide) rfl (fun _ => ?_) (fun h9 => absurd rfl h9)
  refine r_iload (q := 558) dL_law_556 rfl rfl ?_
  obtain ⟨TW0, TWA, f, hf, hfv⟩ := T
  have key : WF M_L_law E Po w0 573 (((LL E x I).set 6 (some (.int (nI k9)))).set 7 (some (.int v2))) [] (md E u2 (x + 331) d2 r2 o2 t2) (k + 40) (n + 4000) := by
    refine r_goto (q := 2259) dL_law_573 (by decide) ?_
    refine WF.drop 6 (WF.drop 7 ?_)
    exact kx _ h2 d2 r2 o2 t2 ⟨TW0.md, TWA.md, I2⟩
  refine r_if_ne (q := 573) (q2 := 561) dL_law_558 (by decide) rfl (fun _ => key) (fun h9 => ?_)
  have k0 : k9 = 0 := nI_inj (b := 0) (by have : k9 ≤ 1 := hk9; omega) (by decide) h9
  refine r_aload_n (q := 562) dL_law_561 rfl rfl rfl ?_
  refine r_iconst (q := 563) (v := 0) dL_law_562 rfl rfl ?_
  refine r_laload (q := 564) dL_law_563 ((md_out (Or.inr (by omega))).trans hf) (show vp_in 0 1 from vp_in_nI (n := 0) (by decide) (by decide)) rfl ?_
  refine r_iload (q := 566) dL_law_564 rfl rfl ?_
  refine r_i2l (q := 567) dL_law_566 rfl ?_
  refine r_lcmp (q := 568) dL_law_567 rfl ?_
  rw [show lg_cmp (f (0 : Int32).toNatClampNeg) v2.toInt64 = 0 from by rw [show f (0 : Int32).toNatClampNeg = v.toInt64 from hfv k0, hv k0, lcmp_s]]
  exact r_if_eq (q := 573) (q2 := 571) dL_law_568 (by decide) rfl (fun _ => key) (fun h9 => absurd rfl h9)
set_option maxRecDepth 100000 in
set_option maxHeartbeats 4000000 in
theorem lc_out {E : xE} {Po : xPo} {w0 w : xW} {x K I k n : Nat} {h : xHi} {d : xCo} {r : mRs} {o : Nat → Int32} {t : mTx} (S : LWS E w x K h d r o t) (hK : K + 15000 < 16000000) (hk : k + 40 ≤ 603072) (hn : n + 4000 ≤ 7227498) (hI : I + 2 < E.2.2.2.1) (hE : E.2.2.2.1 < 100000) (kx : ∀ u h2 d2 r2 o2 t2, LWS E u x (K + 15000) h2 d2 r2 o2 t2 → WF M_L_law E Po w0 2259 (LL E x I) [] u (k + 40) (n + 4000)) : WF M_L_law E Po w0 576 (LL E x I) [] w k n := by
  obtain ⟨S0, SA, I9⟩ := S
  obtain ⟨k9, v, v2, Qh, Qo, hk9, hv, c1, c2, c3⟩ := pr_out (E := E) (x := x) (m := x + 331) (y := E.2.2.2.2 (nI I + 1).toNatClampNeg) (s := E.2.2.2.2 (nI I + 2).toNatClampNeg) I9 hK w S0.1
  obtain ⟨f0, hA⟩ := id SA.1
  refine r_aload_n (q := 577) dL_law_576 rfl rfl rfl ?_
  refine r_aload_n (q := 578) dL_law_577 rfl rfl rfl ?_
  refine r_iload (q := 580) dL_law_578 rfl rfl ?_
  refine r_iconst (q := 581) (v := 1) dL_law_580 rfl rfl ?_
  refine r_iadd (q := 582) dL_law_581 rfl ?_
  refine r_sld (q := 583) dL_law_582 (vi1 hI hE) rfl ?_
  refine r_aload_n (q := 584) dL_law_583 rfl rfl rfl ?_
  refine r_iload (q := 586) dL_law_584 rfl rfl ?_
  refine r_iconst (q := 587) (v := 2) dL_law_586 rfl rfl ?_
  refine r_iadd (q := 588) dL_law_587 rfl ?_
  refine r_sld (q := 589) dL_law_588 (vi2 hI hE) rfl ?_
  refine r_aload_n (q := 590) dL_law_589 rfl rfl rfl ?_
  refine r_callSH (q := 593) (As := [_, _, _, _]) dL_law_590 s_L_law_162 rfl rfl (Nat.le_of_ble_eq_true rfl) rfl rfl rfl (Nat.le_trans (Nat.add_le_add_left (Nat.le_of_ble_eq_true rfl) k) hk) (Nat.le_trans (Nat.add_le_add_left (Nat.le_of_ble_eq_true rfl) n) hn) ⟨Nat.le_trans (Nat.add_le_add_left (Nat.le_of_ble_eq_true rfl) k) hk, Nat.le_trans (Nat.add_le_add_left (Nat.le_of_ble_eq_true rfl) n) hn⟩ rfl ?_
  refine ct_L_out S0.1 hA (ls_ax S0.2.2.1 (by omega) (by omega)) (by have := S0.2.2.2; omega) hk9 c1 (fun u h2 q1 q2 q3 q4 => ?_)
  refine tw_join (Pp := xNext M_L_law E Po w0 593 (LL E x I) [] _ _) S0 SA q2 q3 q4 (fun u2 T => ?_)
  show WF M_L_law E Po w0 593 (LL E x I) [.int (nI k9)] u2 _ _
  refine WF.wide (k2 := k + 40) (n2 := n + 4000) ?_ (Nat.add_le_add_left (Nat.le_of_ble_eq_true rfl) k) (Nat.add_le_add_left (Nat.le_of_ble_eq_true rfl) n)
  refine r_istore (q := 595) dL_law_593 (Nat.le_of_ble_eq_true rfl) (xone_of rfl) rfl ?_
  refine WF.cw (md_of T.1.2.1).symm ?_
  refine r_aload_n (q := 596) dL_law_595 rfl rfl rfl ?_
  refine r_aload_n (q := 597) dL_law_596 rfl rfl rfl ?_
  refine r_iload (q := 599) dL_law_597 rfl rfl ?_
  refine r_iconst (q := 600) (v := 1) dL_law_599 rfl rfl ?_
  refine r_iadd (q := 601) dL_law_600 rfl ?_
  refine r_sld (q := 602) dL_law_601 (vi1 hI hE) rfl ?_
  refine r_aload_n (q := 603) dL_law_602 rfl rfl rfl ?_
  refine r_iload (q := 605) dL_law_603 rfl rfl ?_
  refine r_iconst (q := 606) (v := 2) dL_law_605 rfl rfl ?_
  refine r_iadd (q := 607) dL_law_606 rfl ?_
  refine r_sld (q := 608) dL_law_607 (vi2 hI hE) rfl ?_
  refine r_callV (q := 611) (ci := 12) (As := [_, _]) dL_law_608 s_L_law_164 md_g0 rfl rfl rfl (Nat.le_of_ble_eq_true rfl) rfl rfl rfl hk hn ⟨hk, hn⟩ rfl ?_
  refine c2 _ _ (fun d2 r2 o2 t2 qo => ?_)
  obtain ⟨I2, e2⟩ := c3 h2 d2 r2 o2 t2 q1 qo
  show WF M_L_law E Po w0 611 _ [.int v2] _ _ _
  refine r_istore (q := 613) dL_law_611 (Nat.le_of_ble_eq_true rfl) (xone_of rfl) rfl ?_
  refine r_aload_n (q := 614) dL_law_613 rfl rfl rfl ?_
  refine r_callV (q := 617) (ci := 12) (As := []) dL_law_614 s_L_law_142 md_g0 rfl rfl rfl (Nat.le_of_ble_eq_true rfl) rfl rfl rfl hk hn ⟨hk, hn⟩ rfl ?_
  refine ct_X10_thrown ?_
  show WF M_L_law E Po w0 617 _ [.int (o2 2)] _ _ _
  rw [e2]
  refine r_iload (q := 619) dL_law_617 rfl rfl ?_
  refine r_icmp_eq (q := 624) (q2 := 622) dL_law_619 (by decide) rfl (fun _ => ?_) (fun h9 => absurd rfl h9)
  refine r_iload (q := 626) dL_law_624 rfl rfl ?_
  obtain ⟨TW0, TWA, f, hf, hfv⟩ := T
  have key : WF M_L_law E Po w0 641 (((LL E x I).set 6 (some (.int (nI k9)))).set 7 (some (.int v2))) [] (md E u2 (x + 331) d2 r2 o2 t2) (k + 40) (n + 4000) := by
    refine r_goto (q := 2259) dL_law_641 (by decide) ?_
    refine WF.drop 6 (WF.drop 7 ?_)
    exact kx _ h2 d2 r2 o2 t2 ⟨TW0.md, TWA.md, I2⟩
  refine r_if_ne (q := 641) (q2 := 629) dL_law_626 (by decide) rfl (fun _ => key) (fun h9 => ?_)
  have k0 : k9 = 0 := nI_inj (b := 0) (by have : k9 ≤ 2 := hk9; omega) (by decide) h9
  refine r_aload_n (q := 630) dL_law_629 rfl rfl rfl ?_
  refine r_iconst (q := 631) (v := 0) dL_law_630 rfl rfl ?_
  refine r_laload (q := 632) dL_law_631 ((md_out (Or.inr (by omega))).trans hf) (show vp_in 0 1 from vp_in_nI (n := 0) (by decide) (by decide)) rfl ?_
  refine r_iload (q := 634) dL_law_632 rfl rfl ?_
  refine r_i2l (q := 635) dL_law_634 rfl ?_
  refine r_lcmp (q := 636) dL_law_635 rfl ?_
  rw [show lg_cmp (f (0 : Int32).toNatClampNeg) v2.toInt64 = 0 from by rw [show f (0 : Int32).toNatClampNeg = v.toInt64 from hfv k0, hv k0, lcmp_s]]
  exact r_if_eq (q := 641) (q2 := 639) dL_law_636 (by decide) rfl (fun _ => key) (fun h9 => absurd rfl h9)
set_option maxRecDepth 100000 in
set_option maxHeartbeats 4000000 in
theorem lc_back {E : xE} {Po : xPo} {w0 w : xW} {x K I k n : Nat} {h : xHi} {d : xCo} {r : mRs} {o : Nat → Int32} {t : mTx} (S : LWS E w x K h d r o t) (hK : K + 15000 < 16000000) (hk : k + 40 ≤ 603072) (hn : n + 4000 ≤ 7227498) (hI : I + 2 < E.2.2.2.1) (hE : E.2.2.2.1 < 100000) (kx : ∀ u h2 d2 r2 o2 t2, LWS E u x (K + 15000) h2 d2 r2 o2 t2 → WF M_L_law E Po w0 2259 (LL E x I) [] u (k + 40) (n + 4000)) : WF M_L_law E Po w0 644 (LL E x I) [] w k n := by
  obtain ⟨S0, SA, I9⟩ := S
  obtain ⟨k9, v, v2, Qh, Qo, hk9, hv, c1, c2, c3⟩ := pr_back (E := E) (x := x) (m := x + 331) (y := E.2.2.2.2 (nI I + 1).toNatClampNeg) I9 hK w S0.1
  obtain ⟨f0, hA⟩ := id SA.1
  refine r_aload_n (q := 645) dL_law_644 rfl rfl rfl ?_
  refine r_aload_n (q := 646) dL_law_645 rfl rfl rfl ?_
  refine r_iload (q := 648) dL_law_646 rfl rfl ?_
  refine r_iconst (q := 649) (v := 1) dL_law_648 rfl rfl ?_
  refine r_iadd (q := 650) dL_law_649 rfl ?_
  refine r_sld (q := 651) dL_law_650 (vi1 hI hE) rfl ?_
  refine r_aload_n (q := 652) dL_law_651 rfl rfl rfl ?_
  refine r_callSH (q := 655) (As := [_, _, _]) dL_law_652 s_L_law_165 rfl rfl (Nat.le_of_ble_eq_true rfl) rfl rfl rfl (Nat.le_trans (Nat.add_le_add_left (Nat.le_of_ble_eq_true rfl) k) hk) (Nat.le_trans (Nat.add_le_add_left (Nat.le_of_ble_eq_true rfl) n) hn) ⟨Nat.le_trans (Nat.add_le_add_left (Nat.le_of_ble_eq_true rfl) k) hk, Nat.le_trans (Nat.add_le_add_left (Nat.le_of_ble_eq_true rfl) n) hn⟩ rfl ?_
  refine ct_L_back S0.1 hA (ls_ax S0.2.2.1 (by omega) (by omega)) (by have := S0.2.2.2; omega) hk9 c1 (fun u h2 q1 q2 q3 q4 => ?_)
  refine tw_join (Pp := xNext M_L_law E Po w0 655 (LL E x I) [] _ _) S0 SA q2 q3 q4 (fun u2 T => ?_)
  show WF M_L_law E Po w0 655 (LL E x I) [.int (nI k9)] u2 _ _
  refine WF.wide (k2 := k + 40) (n2 := n + 4000) ?_ (Nat.add_le_add_left (Nat.le_of_ble_eq_true rfl) k) (Nat.add_le_add_left (Nat.le_of_ble_eq_true rfl) n)
  refine r_istore (q := 657) dL_law_655 (Nat.le_of_ble_eq_true rfl) (xone_of rfl) rfl ?_
  refine WF.cw (md_of T.1.2.1).symm ?_
  refine r_aload_n (q := 658) dL_law_657 rfl rfl rfl ?_
  refine r_aload_n (q := 659) dL_law_658 rfl rfl rfl ?_
  refine r_iload (q := 661) dL_law_659 rfl rfl ?_
  refine r_iconst (q := 662) (v := 1) dL_law_661 rfl rfl ?_
  refine r_iadd (q := 663) dL_law_662 rfl ?_
  refine r_sld (q := 664) dL_law_663 (vi1 hI hE) rfl ?_
  refine r_callV (q := 667) (ci := 12) (As := [_]) dL_law_664 s_L_law_167 md_g0 rfl rfl rfl (Nat.le_of_ble_eq_true rfl) rfl rfl rfl hk hn ⟨hk, hn⟩ rfl ?_
  refine c2 _ _ (fun d2 r2 o2 t2 qo => ?_)
  obtain ⟨I2, e2⟩ := c3 h2 d2 r2 o2 t2 q1 qo
  show WF M_L_law E Po w0 667 _ [.int v2] _ _ _
  refine r_istore (q := 669) dL_law_667 (Nat.le_of_ble_eq_true rfl) (xone_of rfl) rfl ?_
  refine r_aload_n (q := 670) dL_law_669 rfl rfl rfl ?_
  refine r_callV (q := 673) (ci := 12) (As := []) dL_law_670 s_L_law_142 md_g0 rfl rfl rfl (Nat.le_of_ble_eq_true rfl) rfl rfl rfl hk hn ⟨hk, hn⟩ rfl ?_
  refine ct_X10_thrown ?_
  show WF M_L_law E Po w0 673 _ [.int (o2 2)] _ _ _
  rw [e2]
  refine r_iload (q := 675) dL_law_673 rfl rfl ?_
  refine r_icmp_eq (q := 680) (q2 := 678) dL_law_675 (by decide) rfl (fun _ => ?_) (fun h9 => absurd rfl h9)
  refine r_iload (q := 682) dL_law_680 rfl rfl ?_
  obtain ⟨TW0, TWA, f, hf, hfv⟩ := T
  have key : WF M_L_law E Po w0 697 (((LL E x I).set 6 (some (.int (nI k9)))).set 7 (some (.int v2))) [] (md E u2 (x + 331) d2 r2 o2 t2) (k + 40) (n + 4000) := by
    refine r_goto (q := 2259) dL_law_697 (by decide) ?_
    refine WF.drop 6 (WF.drop 7 ?_)
    exact kx _ h2 d2 r2 o2 t2 ⟨TW0.md, TWA.md, I2⟩
  refine r_if_ne (q := 697) (q2 := 685) dL_law_682 (by decide) rfl (fun _ => key) (fun h9 => ?_)
  have k0 : k9 = 0 := nI_inj (b := 0) (by have : k9 ≤ 2 := hk9; omega) (by decide) h9
  refine r_aload_n (q := 686) dL_law_685 rfl rfl rfl ?_
  refine r_iconst (q := 687) (v := 0) dL_law_686 rfl rfl ?_
  refine r_laload (q := 688) dL_law_687 ((md_out (Or.inr (by omega))).trans hf) (show vp_in 0 1 from vp_in_nI (n := 0) (by decide) (by decide)) rfl ?_
  refine r_iload (q := 690) dL_law_688 rfl rfl ?_
  refine r_i2l (q := 691) dL_law_690 rfl ?_
  refine r_lcmp (q := 692) dL_law_691 rfl ?_
  rw [show lg_cmp (f (0 : Int32).toNatClampNeg) v2.toInt64 = 0 from by rw [show f (0 : Int32).toNatClampNeg = v.toInt64 from hfv k0, hv k0, lcmp_s]]
  exact r_if_eq (q := 697) (q2 := 695) dL_law_692 (by decide) rfl (fun _ => key) (fun h9 => absurd rfl h9)
set_option maxRecDepth 100000 in
set_option maxHeartbeats 4000000 in
theorem lc_tent {E : xE} {Po : xPo} {w0 w : xW} {x K I k n : Nat} {h : xHi} {d : xCo} {r : mRs} {o : Nat → Int32} {t : mTx} (S : LWS E w x K h d r o t) (hK : K + 15000 < 16000000) (hk : k + 40 ≤ 603072) (hn : n + 4000 ≤ 7227498) (hI : I + 2 < E.2.2.2.1) (hE : E.2.2.2.1 < 100000) (kx : ∀ u h2 d2 r2 o2 t2, LWS E u x (K + 15000) h2 d2 r2 o2 t2 → WF M_L_law E Po w0 2259 (LL E x I) [] u (k + 40) (n + 4000)) : WF M_L_law E Po w0 700 (LL E x I) [] w k n := by
  obtain ⟨S0, SA, I9⟩ := S
  obtain ⟨k9, v, v2, Qh, Qo, hk9, hv, c1, c2, c3⟩ := pr_tent (E := E) (x := x) (m := x + 331) (z := E.2.2.2.2 (nI I + 1).toNatClampNeg) I9 hK w S0.1
  obtain ⟨f0, hA⟩ := id SA.1
  refine r_aload_n (q := 701) dL_law_700 rfl rfl rfl ?_
  refine r_aload_n (q := 702) dL_law_701 rfl rfl rfl ?_
  refine r_iload (q := 704) dL_law_702 rfl rfl ?_
  refine r_iconst (q := 705) (v := 1) dL_law_704 rfl rfl ?_
  refine r_iadd (q := 706) dL_law_705 rfl ?_
  refine r_sld (q := 707) dL_law_706 (vi1 hI hE) rfl ?_
  refine r_aload_n (q := 708) dL_law_707 rfl rfl rfl ?_
  refine r_callSH (q := 711) (As := [_, _, _]) dL_law_708 s_L_law_168 rfl rfl (Nat.le_of_ble_eq_true rfl) rfl rfl rfl (Nat.le_trans (Nat.add_le_add_left (Nat.le_of_ble_eq_true rfl) k) hk) (Nat.le_trans (Nat.add_le_add_left (Nat.le_of_ble_eq_true rfl) n) hn) ⟨Nat.le_trans (Nat.add_le_add_left (Nat.le_of_ble_eq_true rfl) k) hk, Nat.le_trans (Nat.add_le_add_left (Nat.le_of_ble_eq_true rfl) n) hn⟩ rfl ?_
  refine ct_L_tent S0.1 hA (ls_ax S0.2.2.1 (by omega) (by omega)) (by have := S0.2.2.2; omega) hk9 c1 (fun u h2 q1 q2 q3 q4 => ?_)
  refine tw_join (Pp := xNext M_L_law E Po w0 711 (LL E x I) [] _ _) S0 SA q2 q3 q4 (fun u2 T => ?_)
  show WF M_L_law E Po w0 711 (LL E x I) [.int (nI k9)] u2 _ _
  refine WF.wide (k2 := k + 40) (n2 := n + 4000) ?_ (Nat.add_le_add_left (Nat.le_of_ble_eq_true rfl) k) (Nat.add_le_add_left (Nat.le_of_ble_eq_true rfl) n)
  refine r_istore (q := 713) dL_law_711 (Nat.le_of_ble_eq_true rfl) (xone_of rfl) rfl ?_
  refine WF.cw (md_of T.1.2.1).symm ?_
  refine r_aload_n (q := 714) dL_law_713 rfl rfl rfl ?_
  refine r_aload_n (q := 715) dL_law_714 rfl rfl rfl ?_
  refine r_iload (q := 717) dL_law_715 rfl rfl ?_
  refine r_iconst (q := 718) (v := 1) dL_law_717 rfl rfl ?_
  refine r_iadd (q := 719) dL_law_718 rfl ?_
  refine r_sld (q := 720) dL_law_719 (vi1 hI hE) rfl ?_
  refine r_callV (q := 723) (ci := 12) (As := [_]) dL_law_720 s_L_law_170 md_g0 rfl rfl rfl (Nat.le_of_ble_eq_true rfl) rfl rfl rfl hk hn ⟨hk, hn⟩ rfl ?_
  refine c2 _ _ (fun d2 r2 o2 t2 qo => ?_)
  obtain ⟨I2, e2⟩ := c3 h2 d2 r2 o2 t2 q1 qo
  show WF M_L_law E Po w0 723 _ [.int v2] _ _ _
  refine r_istore (q := 725) dL_law_723 (Nat.le_of_ble_eq_true rfl) (xone_of rfl) rfl ?_
  refine r_aload_n (q := 726) dL_law_725 rfl rfl rfl ?_
  refine r_callV (q := 729) (ci := 12) (As := []) dL_law_726 s_L_law_142 md_g0 rfl rfl rfl (Nat.le_of_ble_eq_true rfl) rfl rfl rfl hk hn ⟨hk, hn⟩ rfl ?_
  refine ct_X10_thrown ?_
  show WF M_L_law E Po w0 729 _ [.int (o2 2)] _ _ _
  rw [e2]
  refine r_iload (q := 731) dL_law_729 rfl rfl ?_
  refine r_icmp_eq (q := 736) (q2 := 734) dL_law_731 (by decide) rfl (fun _ => ?_) (fun h9 => absurd rfl h9)
  refine r_iload (q := 738) dL_law_736 rfl rfl ?_
  obtain ⟨TW0, TWA, f, hf, hfv⟩ := T
  have key : WF M_L_law E Po w0 753 (((LL E x I).set 6 (some (.int (nI k9)))).set 7 (some (.int v2))) [] (md E u2 (x + 331) d2 r2 o2 t2) (k + 40) (n + 4000) := by
    refine r_goto (q := 2259) dL_law_753 (by decide) ?_
    refine WF.drop 6 (WF.drop 7 ?_)
    exact kx _ h2 d2 r2 o2 t2 ⟨TW0.md, TWA.md, I2⟩
  refine r_if_ne (q := 753) (q2 := 741) dL_law_738 (by decide) rfl (fun _ => key) (fun h9 => ?_)
  have k0 : k9 = 0 := nI_inj (b := 0) (by have : k9 ≤ 2 := hk9; omega) (by decide) h9
  refine r_aload_n (q := 742) dL_law_741 rfl rfl rfl ?_
  refine r_iconst (q := 743) (v := 0) dL_law_742 rfl rfl ?_
  refine r_laload (q := 744) dL_law_743 ((md_out (Or.inr (by omega))).trans hf) (show vp_in 0 1 from vp_in_nI (n := 0) (by decide) (by decide)) rfl ?_
  refine r_iload (q := 746) dL_law_744 rfl rfl ?_
  refine r_i2l (q := 747) dL_law_746 rfl ?_
  refine r_lcmp (q := 748) dL_law_747 rfl ?_
  rw [show lg_cmp (f (0 : Int32).toNatClampNeg) v2.toInt64 = 0 from by rw [show f (0 : Int32).toNatClampNeg = v.toInt64 from hfv k0, hv k0, lcmp_s]]
  exact r_if_eq (q := 753) (q2 := 751) dL_law_748 (by decide) rfl (fun _ => key) (fun h9 => absurd rfl h9)
set_option maxRecDepth 100000 in
set_option maxHeartbeats 4000000 in
theorem lc_tentOf {E : xE} {Po : xPo} {w0 w : xW} {x K I k n : Nat} {h : xHi} {d : xCo} {r : mRs} {o : Nat → Int32} {t : mTx} (S : LWS E w x K h d r o t) (hK : K + 15000 < 16000000) (hk : k + 40 ≤ 603072) (hn : n + 4000 ≤ 7227498) (hI : I + 2 < E.2.2.2.1) (hE : E.2.2.2.1 < 100000) (kx : ∀ u h2 d2 r2 o2 t2, LWS E u x (K + 15000) h2 d2 r2 o2 t2 → WF M_L_law E Po w0 2259 (LL E x I) [] u (k + 40) (n + 4000)) : WF M_L_law E Po w0 756 (LL E x I) [] w k n := by
  obtain ⟨S0, SA, I9⟩ := S
  obtain ⟨k9, v, v2, Qh, Qo, hk9, hv, c1, c2, c3⟩ := pr_tentOf (E := E) (x := x) (m := x + 331) (z := E.2.2.2.2 (nI I + 1).toNatClampNeg) (y := E.2.2.2.2 (nI I + 2).toNatClampNeg) I9 w S0.1
  obtain ⟨f0, hA⟩ := id SA.1
  refine r_aload_n (q := 757) dL_law_756 rfl rfl rfl ?_
  refine r_aload_n (q := 758) dL_law_757 rfl rfl rfl ?_
  refine r_iload (q := 760) dL_law_758 rfl rfl ?_
  refine r_iconst (q := 761) (v := 1) dL_law_760 rfl rfl ?_
  refine r_iadd (q := 762) dL_law_761 rfl ?_
  refine r_sld (q := 763) dL_law_762 (vi1 hI hE) rfl ?_
  refine r_aload_n (q := 764) dL_law_763 rfl rfl rfl ?_
  refine r_iload (q := 766) dL_law_764 rfl rfl ?_
  refine r_iconst (q := 767) (v := 2) dL_law_766 rfl rfl ?_
  refine r_iadd (q := 768) dL_law_767 rfl ?_
  refine r_sld (q := 769) dL_law_768 (vi2 hI hE) rfl ?_
  refine r_aload_n (q := 770) dL_law_769 rfl rfl rfl ?_
  refine r_callSH (q := 773) (As := [_, _, _, _]) dL_law_770 s_L_law_171 rfl rfl (Nat.le_of_ble_eq_true rfl) rfl rfl rfl (Nat.le_trans (Nat.add_le_add_left (Nat.le_of_ble_eq_true rfl) k) hk) (Nat.le_trans (Nat.add_le_add_left (Nat.le_of_ble_eq_true rfl) n) hn) ⟨Nat.le_trans (Nat.add_le_add_left (Nat.le_of_ble_eq_true rfl) k) hk, Nat.le_trans (Nat.add_le_add_left (Nat.le_of_ble_eq_true rfl) n) hn⟩ rfl ?_
  refine ct_L_tentOf S0.1 hA (ls_ax S0.2.2.1 (by omega) (by omega)) (by have := S0.2.2.2; omega) hk9 c1 (fun u h2 q1 q2 q3 q4 => ?_)
  refine tw_join (Pp := xNext M_L_law E Po w0 773 (LL E x I) [] _ _) S0 SA q2 q3 q4 (fun u2 T => ?_)
  show WF M_L_law E Po w0 773 (LL E x I) [.int (nI k9)] u2 _ _
  refine WF.wide (k2 := k + 40) (n2 := n + 4000) ?_ (Nat.add_le_add_left (Nat.le_of_ble_eq_true rfl) k) (Nat.add_le_add_left (Nat.le_of_ble_eq_true rfl) n)
  refine r_istore (q := 775) dL_law_773 (Nat.le_of_ble_eq_true rfl) (xone_of rfl) rfl ?_
  refine WF.cw (md_of T.1.2.1).symm ?_
  refine r_aload_n (q := 776) dL_law_775 rfl rfl rfl ?_
  refine r_aload_n (q := 777) dL_law_776 rfl rfl rfl ?_
  refine r_iload (q := 779) dL_law_777 rfl rfl ?_
  refine r_iconst (q := 780) (v := 1) dL_law_779 rfl rfl ?_
  refine r_iadd (q := 781) dL_law_780 rfl ?_
  refine r_sld (q := 782) dL_law_781 (vi1 hI hE) rfl ?_
  refine r_aload_n (q := 783) dL_law_782 rfl rfl rfl ?_
  refine r_iload (q := 785) dL_law_783 rfl rfl ?_
  refine r_iconst (q := 786) (v := 2) dL_law_785 rfl rfl ?_
  refine r_iadd (q := 787) dL_law_786 rfl ?_
  refine r_sld (q := 788) dL_law_787 (vi2 hI hE) rfl ?_
  refine r_callV (q := 791) (ci := 12) (As := [_, _]) dL_law_788 s_L_law_173 md_g0 rfl rfl rfl (Nat.le_of_ble_eq_true rfl) rfl rfl rfl hk hn ⟨hk, hn⟩ rfl ?_
  refine c2 _ _ (fun d2 r2 o2 t2 qo => ?_)
  obtain ⟨I2, e2⟩ := c3 h2 d2 r2 o2 t2 q1 qo
  show WF M_L_law E Po w0 791 _ [.int v2] _ _ _
  refine r_istore (q := 793) dL_law_791 (Nat.le_of_ble_eq_true rfl) (xone_of rfl) rfl ?_
  refine r_aload_n (q := 794) dL_law_793 rfl rfl rfl ?_
  refine r_callV (q := 797) (ci := 12) (As := []) dL_law_794 s_L_law_142 md_g0 rfl rfl rfl (Nat.le_of_ble_eq_true rfl) rfl rfl rfl hk hn ⟨hk, hn⟩ rfl ?_
  refine ct_X10_thrown ?_
  show WF M_L_law E Po w0 797 _ [.int (o2 2)] _ _ _
  rw [e2]
  refine r_iload (q := 799) dL_law_797 rfl rfl ?_
  refine r_icmp_eq (q := 804) (q2 := 802) dL_law_799 (by decide) rfl (fun _ => ?_) (fun h9 => absurd rfl h9)
  refine r_iload (q := 806) dL_law_804 rfl rfl ?_
  obtain ⟨TW0, TWA, f, hf, hfv⟩ := T
  have key : WF M_L_law E Po w0 821 (((LL E x I).set 6 (some (.int (nI k9)))).set 7 (some (.int v2))) [] (md E u2 (x + 331) d2 r2 o2 t2) (k + 40) (n + 4000) := by
    refine r_goto (q := 2259) dL_law_821 (by decide) ?_
    refine WF.drop 6 (WF.drop 7 ?_)
    exact kx _ h2 d2 r2 o2 t2 ⟨TW0.md, TWA.md, I2⟩
  refine r_if_ne (q := 821) (q2 := 809) dL_law_806 (by decide) rfl (fun _ => key) (fun h9 => ?_)
  have k0 : k9 = 0 := nI_inj (b := 0) (by have : k9 ≤ 2 := hk9; omega) (by decide) h9
  refine r_aload_n (q := 810) dL_law_809 rfl rfl rfl ?_
  refine r_iconst (q := 811) (v := 0) dL_law_810 rfl rfl ?_
  refine r_laload (q := 812) dL_law_811 ((md_out (Or.inr (by omega))).trans hf) (show vp_in 0 1 from vp_in_nI (n := 0) (by decide) (by decide)) rfl ?_
  refine r_iload (q := 814) dL_law_812 rfl rfl ?_
  refine r_i2l (q := 815) dL_law_814 rfl ?_
  refine r_lcmp (q := 816) dL_law_815 rfl ?_
  rw [show lg_cmp (f (0 : Int32).toNatClampNeg) v2.toInt64 = 0 from by rw [show f (0 : Int32).toNatClampNeg = v.toInt64 from hfv k0, hv k0, lcmp_s]]
  exact r_if_eq (q := 821) (q2 := 819) dL_law_816 (by decide) rfl (fun _ => key) (fun h9 => absurd rfl h9)
set_option maxRecDepth 100000 in
set_option maxHeartbeats 4000000 in
theorem lc_waiting {E : xE} {Po : xPo} {w0 w : xW} {x K I k n : Nat} {h : xHi} {d : xCo} {r : mRs} {o : Nat → Int32} {t : mTx} (S : LWS E w x K h d r o t) (hK : K + 15000 < 16000000) (hk : k + 40 ≤ 603072) (hn : n + 4000 ≤ 7227498) (hI : I + 2 < E.2.2.2.1) (hE : E.2.2.2.1 < 100000) (kx : ∀ u h2 d2 r2 o2 t2, LWS E u x (K + 15000) h2 d2 r2 o2 t2 → WF M_L_law E Po w0 2259 (LL E x I) [] u (k + 40) (n + 4000)) : WF M_L_law E Po w0 824 (LL E x I) [] w k n := by
  obtain ⟨S0, SA, I9⟩ := S
  obtain ⟨k9, v, v2, Qh, Qo, hk9, hv, c1, c2, c3⟩ := pr_waiting (E := E) (x := x) (m := x + 331) (z := E.2.2.2.2 (nI I + 1).toNatClampNeg) (y := E.2.2.2.2 (nI I + 2).toNatClampNeg) I9 w S0.1
  obtain ⟨f0, hA⟩ := id SA.1
  refine r_aload_n (q := 825) dL_law_824 rfl rfl rfl ?_
  refine r_aload_n (q := 826) dL_law_825 rfl rfl rfl ?_
  refine r_iload (q := 828) dL_law_826 rfl rfl ?_
  refine r_iconst (q := 829) (v := 1) dL_law_828 rfl rfl ?_
  refine r_iadd (q := 830) dL_law_829 rfl ?_
  refine r_sld (q := 831) dL_law_830 (vi1 hI hE) rfl ?_
  refine r_aload_n (q := 832) dL_law_831 rfl rfl rfl ?_
  refine r_iload (q := 834) dL_law_832 rfl rfl ?_
  refine r_iconst (q := 835) (v := 2) dL_law_834 rfl rfl ?_
  refine r_iadd (q := 836) dL_law_835 rfl ?_
  refine r_sld (q := 837) dL_law_836 (vi2 hI hE) rfl ?_
  refine r_aload_n (q := 838) dL_law_837 rfl rfl rfl ?_
  refine r_callSH (q := 841) (As := [_, _, _, _]) dL_law_838 s_L_law_174 rfl rfl (Nat.le_of_ble_eq_true rfl) rfl rfl rfl (Nat.le_trans (Nat.add_le_add_left (Nat.le_of_ble_eq_true rfl) k) hk) (Nat.le_trans (Nat.add_le_add_left (Nat.le_of_ble_eq_true rfl) n) hn) ⟨Nat.le_trans (Nat.add_le_add_left (Nat.le_of_ble_eq_true rfl) k) hk, Nat.le_trans (Nat.add_le_add_left (Nat.le_of_ble_eq_true rfl) n) hn⟩ rfl ?_
  refine ct_L_waiting S0.1 hA (ls_ax S0.2.2.1 (by omega) (by omega)) (by have := S0.2.2.2; omega) hk9 c1 (fun u h2 q1 q2 q3 q4 => ?_)
  refine tw_join (Pp := xNext M_L_law E Po w0 841 (LL E x I) [] _ _) S0 SA q2 q3 q4 (fun u2 T => ?_)
  show WF M_L_law E Po w0 841 (LL E x I) [.int (nI k9)] u2 _ _
  refine WF.wide (k2 := k + 40) (n2 := n + 4000) ?_ (Nat.add_le_add_left (Nat.le_of_ble_eq_true rfl) k) (Nat.add_le_add_left (Nat.le_of_ble_eq_true rfl) n)
  refine r_istore (q := 843) dL_law_841 (Nat.le_of_ble_eq_true rfl) (xone_of rfl) rfl ?_
  refine WF.cw (md_of T.1.2.1).symm ?_
  refine r_aload_n (q := 844) dL_law_843 rfl rfl rfl ?_
  refine r_aload_n (q := 845) dL_law_844 rfl rfl rfl ?_
  refine r_iload (q := 847) dL_law_845 rfl rfl ?_
  refine r_iconst (q := 848) (v := 1) dL_law_847 rfl rfl ?_
  refine r_iadd (q := 849) dL_law_848 rfl ?_
  refine r_sld (q := 850) dL_law_849 (vi1 hI hE) rfl ?_
  refine r_aload_n (q := 851) dL_law_850 rfl rfl rfl ?_
  refine r_iload (q := 853) dL_law_851 rfl rfl ?_
  refine r_iconst (q := 854) (v := 2) dL_law_853 rfl rfl ?_
  refine r_iadd (q := 855) dL_law_854 rfl ?_
  refine r_sld (q := 856) dL_law_855 (vi2 hI hE) rfl ?_
  refine r_callV (q := 859) (ci := 12) (As := [_, _]) dL_law_856 s_L_law_176 md_g0 rfl rfl rfl (Nat.le_of_ble_eq_true rfl) rfl rfl rfl hk hn ⟨hk, hn⟩ rfl ?_
  refine c2 _ _ (fun d2 r2 o2 t2 qo => ?_)
  obtain ⟨I2, e2⟩ := c3 h2 d2 r2 o2 t2 q1 qo
  show WF M_L_law E Po w0 859 _ [.int v2] _ _ _
  refine r_istore (q := 861) dL_law_859 (Nat.le_of_ble_eq_true rfl) (xone_of rfl) rfl ?_
  refine r_aload_n (q := 862) dL_law_861 rfl rfl rfl ?_
  refine r_callV (q := 865) (ci := 12) (As := []) dL_law_862 s_L_law_142 md_g0 rfl rfl rfl (Nat.le_of_ble_eq_true rfl) rfl rfl rfl hk hn ⟨hk, hn⟩ rfl ?_
  refine ct_X10_thrown ?_
  show WF M_L_law E Po w0 865 _ [.int (o2 2)] _ _ _
  rw [e2]
  refine r_iload (q := 867) dL_law_865 rfl rfl ?_
  refine r_icmp_eq (q := 872) (q2 := 870) dL_law_867 (by decide) rfl (fun _ => ?_) (fun h9 => absurd rfl h9)
  refine r_iload (q := 874) dL_law_872 rfl rfl ?_
  obtain ⟨TW0, TWA, f, hf, hfv⟩ := T
  have key : WF M_L_law E Po w0 889 (((LL E x I).set 6 (some (.int (nI k9)))).set 7 (some (.int v2))) [] (md E u2 (x + 331) d2 r2 o2 t2) (k + 40) (n + 4000) := by
    refine r_goto (q := 2259) dL_law_889 (by decide) ?_
    refine WF.drop 6 (WF.drop 7 ?_)
    exact kx _ h2 d2 r2 o2 t2 ⟨TW0.md, TWA.md, I2⟩
  refine r_if_ne (q := 889) (q2 := 877) dL_law_874 (by decide) rfl (fun _ => key) (fun h9 => ?_)
  have k0 : k9 = 0 := nI_inj (b := 0) (by have : k9 ≤ 2 := hk9; omega) (by decide) h9
  refine r_aload_n (q := 878) dL_law_877 rfl rfl rfl ?_
  refine r_iconst (q := 879) (v := 0) dL_law_878 rfl rfl ?_
  refine r_laload (q := 880) dL_law_879 ((md_out (Or.inr (by omega))).trans hf) (show vp_in 0 1 from vp_in_nI (n := 0) (by decide) (by decide)) rfl ?_
  refine r_iload (q := 882) dL_law_880 rfl rfl ?_
  refine r_i2l (q := 883) dL_law_882 rfl ?_
  refine r_lcmp (q := 884) dL_law_883 rfl ?_
  rw [show lg_cmp (f (0 : Int32).toNatClampNeg) v2.toInt64 = 0 from by rw [show f (0 : Int32).toNatClampNeg = v.toInt64 from hfv k0, hv k0, lcmp_s]]
  exact r_if_eq (q := 889) (q2 := 887) dL_law_884 (by decide) rfl (fun _ => key) (fun h9 => absurd rfl h9)
set_option maxRecDepth 100000 in
set_option maxHeartbeats 4000000 in
theorem lc_join {E : xE} {Po : xPo} {w0 w : xW} {x K I k n : Nat} {h : xHi} {d : xCo} {r : mRs} {o : Nat → Int32} {t : mTx} (S : LWS E w x K h d r o t) (hK : K + 15000 < 16000000) (hk : k + 40 ≤ 603072) (hn : n + 4000 ≤ 7227498) (hI : I + 2 < E.2.2.2.1) (hE : E.2.2.2.1 < 100000) (kx : ∀ u h2 d2 r2 o2 t2, LWS E u x (K + 15000) h2 d2 r2 o2 t2 → WF M_L_law E Po w0 2259 (LL E x I) [] u (k + 40) (n + 4000)) : WF M_L_law E Po w0 892 (LL E x I) [] w k n := by
  obtain ⟨S0, SA, I9⟩ := S
  obtain ⟨k9, v, v2, Qh, Qo, hk9, hv, c1, c2, c3⟩ := pr_join (E := E) (x := x) (m := x + 331) (y := E.2.2.2.2 (nI I + 1).toNatClampNeg) I9 hK w S0.1
  obtain ⟨f0, hA⟩ := id SA.1
  refine r_aload_n (q := 893) dL_law_892 rfl rfl rfl ?_
  refine r_aload_n (q := 894) dL_law_893 rfl rfl rfl ?_
  refine r_iload (q := 896) dL_law_894 rfl rfl ?_
  refine r_iconst (q := 897) (v := 1) dL_law_896 rfl rfl ?_
  refine r_iadd (q := 898) dL_law_897 rfl ?_
  refine r_sld (q := 899) dL_law_898 (vi1 hI hE) rfl ?_
  refine r_aload_n (q := 900) dL_law_899 rfl rfl rfl ?_
  refine r_callSH (q := 903) (As := [_, _, _]) dL_law_900 s_L_law_177 rfl rfl (Nat.le_of_ble_eq_true rfl) rfl rfl rfl (Nat.le_trans (Nat.add_le_add_left (Nat.le_of_ble_eq_true rfl) k) hk) (Nat.le_trans (Nat.add_le_add_left (Nat.le_of_ble_eq_true rfl) n) hn) ⟨Nat.le_trans (Nat.add_le_add_left (Nat.le_of_ble_eq_true rfl) k) hk, Nat.le_trans (Nat.add_le_add_left (Nat.le_of_ble_eq_true rfl) n) hn⟩ rfl ?_
  refine ct_L_join S0.1 hA (ls_ax S0.2.2.1 (by omega) (by omega)) (by have := S0.2.2.2; omega) hk9 c1 (fun u h2 q1 q2 q3 q4 => ?_)
  refine tw_join (Pp := xNext M_L_law E Po w0 903 (LL E x I) [] _ _) S0 SA q2 q3 q4 (fun u2 T => ?_)
  show WF M_L_law E Po w0 903 (LL E x I) [.int (nI k9)] u2 _ _
  refine WF.wide (k2 := k + 40) (n2 := n + 4000) ?_ (Nat.add_le_add_left (Nat.le_of_ble_eq_true rfl) k) (Nat.add_le_add_left (Nat.le_of_ble_eq_true rfl) n)
  refine r_istore (q := 905) dL_law_903 (Nat.le_of_ble_eq_true rfl) (xone_of rfl) rfl ?_
  refine WF.cw (md_of T.1.2.1).symm ?_
  refine r_aload_n (q := 906) dL_law_905 rfl rfl rfl ?_
  refine r_aload_n (q := 907) dL_law_906 rfl rfl rfl ?_
  refine r_iload (q := 909) dL_law_907 rfl rfl ?_
  refine r_iconst (q := 910) (v := 1) dL_law_909 rfl rfl ?_
  refine r_iadd (q := 911) dL_law_910 rfl ?_
  refine r_sld (q := 912) dL_law_911 (vi1 hI hE) rfl ?_
  refine r_callV (q := 915) (ci := 12) (As := [_]) dL_law_912 s_L_law_179 md_g0 rfl rfl rfl (Nat.le_of_ble_eq_true rfl) rfl rfl rfl hk hn ⟨hk, hn⟩ rfl ?_
  refine c2 _ _ (fun d2 r2 o2 t2 qo => ?_)
  obtain ⟨I2, e2⟩ := c3 h2 d2 r2 o2 t2 q1 qo
  show WF M_L_law E Po w0 915 _ [.int v2] _ _ _
  refine r_istore (q := 917) dL_law_915 (Nat.le_of_ble_eq_true rfl) (xone_of rfl) rfl ?_
  refine r_aload_n (q := 918) dL_law_917 rfl rfl rfl ?_
  refine r_callV (q := 921) (ci := 12) (As := []) dL_law_918 s_L_law_142 md_g0 rfl rfl rfl (Nat.le_of_ble_eq_true rfl) rfl rfl rfl hk hn ⟨hk, hn⟩ rfl ?_
  refine ct_X10_thrown ?_
  show WF M_L_law E Po w0 921 _ [.int (o2 2)] _ _ _
  rw [e2]
  refine r_iload (q := 923) dL_law_921 rfl rfl ?_
  refine r_icmp_eq (q := 928) (q2 := 926) dL_law_923 (by decide) rfl (fun _ => ?_) (fun h9 => absurd rfl h9)
  refine r_iload (q := 930) dL_law_928 rfl rfl ?_
  obtain ⟨TW0, TWA, f, hf, hfv⟩ := T
  have key : WF M_L_law E Po w0 945 (((LL E x I).set 6 (some (.int (nI k9)))).set 7 (some (.int v2))) [] (md E u2 (x + 331) d2 r2 o2 t2) (k + 40) (n + 4000) := by
    refine r_goto (q := 2259) dL_law_945 (by decide) ?_
    refine WF.drop 6 (WF.drop 7 ?_)
    exact kx _ h2 d2 r2 o2 t2 ⟨TW0.md, TWA.md, I2⟩
  refine r_if_ne (q := 945) (q2 := 933) dL_law_930 (by decide) rfl (fun _ => key) (fun h9 => ?_)
  have k0 : k9 = 0 := nI_inj (b := 0) (by have : k9 ≤ 2 := hk9; omega) (by decide) h9
  refine r_aload_n (q := 934) dL_law_933 rfl rfl rfl ?_
  refine r_iconst (q := 935) (v := 0) dL_law_934 rfl rfl ?_
  refine r_laload (q := 936) dL_law_935 ((md_out (Or.inr (by omega))).trans hf) (show vp_in 0 1 from vp_in_nI (n := 0) (by decide) (by decide)) rfl ?_
  refine r_iload (q := 938) dL_law_936 rfl rfl ?_
  refine r_i2l (q := 939) dL_law_938 rfl ?_
  refine r_lcmp (q := 940) dL_law_939 rfl ?_
  rw [show lg_cmp (f (0 : Int32).toNatClampNeg) v2.toInt64 = 0 from by rw [show f (0 : Int32).toNatClampNeg = v.toInt64 from hfv k0, hv k0, lcmp_s]]
  exact r_if_eq (q := 945) (q2 := 943) dL_law_940 (by decide) rfl (fun _ => key) (fun h9 => absurd rfl h9)
set_option maxRecDepth 100000 in
set_option maxHeartbeats 4000000 in
theorem lc_heater {E : xE} {Po : xPo} {w0 w : xW} {x K I k n : Nat} {h : xHi} {d : xCo} {r : mRs} {o : Nat → Int32} {t : mTx} (S : LWS E w x K h d r o t) (hK : K + 15000 < 16000000) (hk : k + 40 ≤ 603072) (hn : n + 4000 ≤ 7227498) (hI : I + 2 < E.2.2.2.1) (hE : E.2.2.2.1 < 100000) (kx : ∀ u h2 d2 r2 o2 t2, LWS E u x (K + 15000) h2 d2 r2 o2 t2 → WF M_L_law E Po w0 2259 (LL E x I) [] u (k + 40) (n + 4000)) : WF M_L_law E Po w0 948 (LL E x I) [] w k n := by
  obtain ⟨S0, SA, I9⟩ := S
  obtain ⟨k9, v, v2, Qh, Qo, hk9, hv, c1, c2, c3⟩ := pr_heater (E := E) (x := x) (m := x + 331) I9 hK w S0.1
  obtain ⟨f0, hA⟩ := id SA.1
  refine r_aload_n (q := 949) dL_law_948 rfl rfl rfl ?_
  refine r_aload_n (q := 950) dL_law_949 rfl rfl rfl ?_
  refine r_callSH (q := 953) (As := [_, _]) dL_law_950 s_L_law_180 rfl rfl (Nat.le_of_ble_eq_true rfl) rfl rfl rfl (Nat.le_trans (Nat.add_le_add_left (Nat.le_of_ble_eq_true rfl) k) hk) (Nat.le_trans (Nat.add_le_add_left (Nat.le_of_ble_eq_true rfl) n) hn) ⟨Nat.le_trans (Nat.add_le_add_left (Nat.le_of_ble_eq_true rfl) k) hk, Nat.le_trans (Nat.add_le_add_left (Nat.le_of_ble_eq_true rfl) n) hn⟩ rfl ?_
  refine ct_L_heater S0.1 hA (ls_ax S0.2.2.1 (by omega) (by omega)) (by have := S0.2.2.2; omega) hk9 c1 (fun u h2 q1 q2 q3 q4 => ?_)
  refine tw_join (Pp := xNext M_L_law E Po w0 953 (LL E x I) [] _ _) S0 SA q2 q3 q4 (fun u2 T => ?_)
  show WF M_L_law E Po w0 953 (LL E x I) [.int (nI k9)] u2 _ _
  refine WF.wide (k2 := k + 40) (n2 := n + 4000) ?_ (Nat.add_le_add_left (Nat.le_of_ble_eq_true rfl) k) (Nat.add_le_add_left (Nat.le_of_ble_eq_true rfl) n)
  refine r_istore (q := 955) dL_law_953 (Nat.le_of_ble_eq_true rfl) (xone_of rfl) rfl ?_
  refine WF.cw (md_of T.1.2.1).symm ?_
  refine r_aload_n (q := 956) dL_law_955 rfl rfl rfl ?_
  refine r_callV (q := 959) (ci := 12) (As := []) dL_law_956 s_L_law_182 md_g0 rfl rfl rfl (Nat.le_of_ble_eq_true rfl) rfl rfl rfl hk hn ⟨hk, hn⟩ rfl ?_
  refine c2 _ _ (fun d2 r2 o2 t2 qo => ?_)
  obtain ⟨I2, e2⟩ := c3 h2 d2 r2 o2 t2 q1 qo
  show WF M_L_law E Po w0 959 _ [.int v2] _ _ _
  refine r_istore (q := 961) dL_law_959 (Nat.le_of_ble_eq_true rfl) (xone_of rfl) rfl ?_
  refine r_aload_n (q := 962) dL_law_961 rfl rfl rfl ?_
  refine r_callV (q := 965) (ci := 12) (As := []) dL_law_962 s_L_law_142 md_g0 rfl rfl rfl (Nat.le_of_ble_eq_true rfl) rfl rfl rfl hk hn ⟨hk, hn⟩ rfl ?_
  refine ct_X10_thrown ?_
  show WF M_L_law E Po w0 965 _ [.int (o2 2)] _ _ _
  rw [e2]
  refine r_iload (q := 967) dL_law_965 rfl rfl ?_
  refine r_icmp_eq (q := 972) (q2 := 970) dL_law_967 (by decide) rfl (fun _ => ?_) (fun h9 => absurd rfl h9)
  refine r_iload (q := 974) dL_law_972 rfl rfl ?_
  obtain ⟨TW0, TWA, f, hf, hfv⟩ := T
  have key : WF M_L_law E Po w0 989 (((LL E x I).set 6 (some (.int (nI k9)))).set 7 (some (.int v2))) [] (md E u2 (x + 331) d2 r2 o2 t2) (k + 40) (n + 4000) := by
    refine r_goto (q := 2259) dL_law_989 (by decide) ?_
    refine WF.drop 6 (WF.drop 7 ?_)
    exact kx _ h2 d2 r2 o2 t2 ⟨TW0.md, TWA.md, I2⟩
  refine r_if_ne (q := 989) (q2 := 977) dL_law_974 (by decide) rfl (fun _ => key) (fun h9 => ?_)
  have k0 : k9 = 0 := nI_inj (b := 0) (by have : k9 ≤ 1 := hk9; omega) (by decide) h9
  refine r_aload_n (q := 978) dL_law_977 rfl rfl rfl ?_
  refine r_iconst (q := 979) (v := 0) dL_law_978 rfl rfl ?_
  refine r_laload (q := 980) dL_law_979 ((md_out (Or.inr (by omega))).trans hf) (show vp_in 0 1 from vp_in_nI (n := 0) (by decide) (by decide)) rfl ?_
  refine r_iload (q := 982) dL_law_980 rfl rfl ?_
  refine r_i2l (q := 983) dL_law_982 rfl ?_
  refine r_lcmp (q := 984) dL_law_983 rfl ?_
  rw [show lg_cmp (f (0 : Int32).toNatClampNeg) v2.toInt64 = 0 from by rw [show f (0 : Int32).toNatClampNeg = v.toInt64 from hfv k0, hv k0, lcmp_s]]
  exact r_if_eq (q := 989) (q2 := 987) dL_law_984 (by decide) rfl (fun _ => key) (fun h9 => absurd rfl h9)
set_option maxRecDepth 100000 in
set_option maxHeartbeats 4000000 in
theorem lc_heaterOf {E : xE} {Po : xPo} {w0 w : xW} {x K I k n : Nat} {h : xHi} {d : xCo} {r : mRs} {o : Nat → Int32} {t : mTx} (S : LWS E w x K h d r o t) (hK : K + 15000 < 16000000) (hk : k + 40 ≤ 603072) (hn : n + 4000 ≤ 7227498) (hI : I + 2 < E.2.2.2.1) (hE : E.2.2.2.1 < 100000) (kx : ∀ u h2 d2 r2 o2 t2, LWS E u x (K + 15000) h2 d2 r2 o2 t2 → WF M_L_law E Po w0 2259 (LL E x I) [] u (k + 40) (n + 4000)) : WF M_L_law E Po w0 992 (LL E x I) [] w k n := by
  obtain ⟨S0, SA, I9⟩ := S
  by_cases hz : E.2.2.2.2 (nI I + 2).toNatClampNeg = 0
  · skip
    obtain ⟨k9, v, v2, Qh, Qo, hk9, hv, c1, c2, c3⟩ := pr_heaterOf (E := E) (x := x) (m := x + 331) (z := E.2.2.2.2 (nI I + 1).toNatClampNeg) (y := 0) I9 w S0.1
    obtain ⟨f0, hA⟩ := id SA.1
    refine r_aload_n (q := 993) dL_law_992 rfl rfl rfl ?_
    refine r_aload_n (q := 994) dL_law_993 rfl rfl rfl ?_
    refine r_iload (q := 996) dL_law_994 rfl rfl ?_
    refine r_iconst (q := 997) (v := 1) dL_law_996 rfl rfl ?_
    refine r_iadd (q := 998) dL_law_997 rfl ?_
    refine r_sld (q := 999) dL_law_998 (vi1 hI hE) rfl ?_
    refine r_aload_n (q := 1000) dL_law_999 rfl rfl rfl ?_
    refine r_iload (q := 1002) dL_law_1000 rfl rfl ?_
    refine r_iconst (q := 1003) (v := 2) dL_law_1002 rfl rfl ?_
    refine r_iadd (q := 1004) dL_law_1003 rfl ?_
    refine r_sld (q := 1005) dL_law_1004 (vi2 hI hE) rfl ?_
    refine r_if_eq (q := 1012) (q2 := 1008) dL_law_1005 (by decide) rfl (fun _ => ?_) (fun h9 => absurd hz h9)
    refine r_iconst (q := 1013) (v := 0) dL_law_1012 rfl rfl ?_
    refine r_aload_n (q := 1014) dL_law_1013 rfl rfl rfl ?_
    refine r_callSH (q := 1017) (As := [_, _, _, _]) dL_law_1014 s_L_law_183 rfl rfl (Nat.le_of_ble_eq_true rfl) rfl rfl rfl (Nat.le_trans (Nat.add_le_add_left (Nat.le_of_ble_eq_true rfl) k) hk) (Nat.le_trans (Nat.add_le_add_left (Nat.le_of_ble_eq_true rfl) n) hn) ⟨Nat.le_trans (Nat.add_le_add_left (Nat.le_of_ble_eq_true rfl) k) hk, Nat.le_trans (Nat.add_le_add_left (Nat.le_of_ble_eq_true rfl) n) hn⟩ rfl ?_
    refine ct_L_heaterOf S0.1 hA (ls_ax S0.2.2.1 (by omega) (by omega)) (by have := S0.2.2.2; omega) hk9 c1 (fun u h2 q1 q2 q3 q4 => ?_)
    refine tw_join (Pp := xNext M_L_law E Po w0 1017 (LL E x I) [] _ _) S0 SA q2 q3 q4 (fun u2 T => ?_)
    show WF M_L_law E Po w0 1017 (LL E x I) [.int (nI k9)] u2 _ _
    refine WF.wide (k2 := k + 40) (n2 := n + 4000) ?_ (Nat.add_le_add_left (Nat.le_of_ble_eq_true rfl) k) (Nat.add_le_add_left (Nat.le_of_ble_eq_true rfl) n)
    refine r_istore (q := 1019) dL_law_1017 (Nat.le_of_ble_eq_true rfl) (xone_of rfl) rfl ?_
    refine WF.cw (md_of T.1.2.1).symm ?_
    refine r_aload_n (q := 1020) dL_law_1019 rfl rfl rfl ?_
    refine r_aload_n (q := 1021) dL_law_1020 rfl rfl rfl ?_
    refine r_iload (q := 1023) dL_law_1021 rfl rfl ?_
    refine r_iconst (q := 1024) (v := 1) dL_law_1023 rfl rfl ?_
    refine r_iadd (q := 1025) dL_law_1024 rfl ?_
    refine r_sld (q := 1026) dL_law_1025 (vi1 hI hE) rfl ?_
    refine r_aload_n (q := 1027) dL_law_1026 rfl rfl rfl ?_
    refine r_iload (q := 1029) dL_law_1027 rfl rfl ?_
    refine r_iconst (q := 1030) (v := 2) dL_law_1029 rfl rfl ?_
    refine r_iadd (q := 1031) dL_law_1030 rfl ?_
    refine r_sld (q := 1032) dL_law_1031 (vi2 hI hE) rfl ?_
    refine r_if_eq (q := 1039) (q2 := 1035) dL_law_1032 (by decide) rfl (fun _ => ?_) (fun h9 => absurd hz h9)
    refine r_iconst (q := 1040) (v := 0) dL_law_1039 rfl rfl ?_
    refine r_callV (q := 1043) (ci := 12) (As := [_, _]) dL_law_1040 s_L_law_186 md_g0 rfl rfl rfl (Nat.le_of_ble_eq_true rfl) rfl rfl rfl hk hn ⟨hk, hn⟩ rfl ?_
    refine c2 _ _ (fun d2 r2 o2 t2 qo => ?_)
    obtain ⟨I2, e2⟩ := c3 h2 d2 r2 o2 t2 q1 qo
    show WF M_L_law E Po w0 1043 _ [.int v2] _ _ _
    refine r_istore (q := 1045) dL_law_1043 (Nat.le_of_ble_eq_true rfl) (xone_of rfl) rfl ?_
    refine r_aload_n (q := 1046) dL_law_1045 rfl rfl rfl ?_
    refine r_callV (q := 1049) (ci := 12) (As := []) dL_law_1046 s_L_law_142 md_g0 rfl rfl rfl (Nat.le_of_ble_eq_true rfl) rfl rfl rfl hk hn ⟨hk, hn⟩ rfl ?_
    refine ct_X10_thrown ?_
    show WF M_L_law E Po w0 1049 _ [.int (o2 2)] _ _ _
    rw [e2]
    refine r_iload (q := 1051) dL_law_1049 rfl rfl ?_
    refine r_icmp_eq (q := 1056) (q2 := 1054) dL_law_1051 (by decide) rfl (fun _ => ?_) (fun h9 => absurd rfl h9)
    refine r_iload (q := 1058) dL_law_1056 rfl rfl ?_
    obtain ⟨TW0, TWA, f, hf, hfv⟩ := T
    have key : WF M_L_law E Po w0 1073 (((LL E x I).set 6 (some (.int (nI k9)))).set 7 (some (.int v2))) [] (md E u2 (x + 331) d2 r2 o2 t2) (k + 40) (n + 4000) := by
      refine r_goto (q := 2259) dL_law_1073 (by decide) ?_
      refine WF.drop 6 (WF.drop 7 ?_)
      exact kx _ h2 d2 r2 o2 t2 ⟨TW0.md, TWA.md, I2⟩
    refine r_if_ne (q := 1073) (q2 := 1061) dL_law_1058 (by decide) rfl (fun _ => key) (fun h9 => ?_)
    have k0 : k9 = 0 := nI_inj (b := 0) (by have : k9 ≤ 1 := hk9; omega) (by decide) h9
    refine r_aload_n (q := 1062) dL_law_1061 rfl rfl rfl ?_
    refine r_iconst (q := 1063) (v := 0) dL_law_1062 rfl rfl ?_
    refine r_laload (q := 1064) dL_law_1063 ((md_out (Or.inr (by omega))).trans hf) (show vp_in 0 1 from vp_in_nI (n := 0) (by decide) (by decide)) rfl ?_
    refine r_iload (q := 1066) dL_law_1064 rfl rfl ?_
    refine r_i2l (q := 1067) dL_law_1066 rfl ?_
    refine r_lcmp (q := 1068) dL_law_1067 rfl ?_
    rw [show lg_cmp (f (0 : Int32).toNatClampNeg) v2.toInt64 = 0 from by rw [show f (0 : Int32).toNatClampNeg = v.toInt64 from hfv k0, hv k0, lcmp_s]]
    exact r_if_eq (q := 1073) (q2 := 1071) dL_law_1068 (by decide) rfl (fun _ => key) (fun h9 => absurd rfl h9)
  · skip
    obtain ⟨k9, v, v2, Qh, Qo, hk9, hv, c1, c2, c3⟩ := pr_heaterOf (E := E) (x := x) (m := x + 331) (z := E.2.2.2.2 (nI I + 1).toNatClampNeg) (y := 1) I9 w S0.1
    obtain ⟨f0, hA⟩ := id SA.1
    refine r_aload_n (q := 993) dL_law_992 rfl rfl rfl ?_
    refine r_aload_n (q := 994) dL_law_993 rfl rfl rfl ?_
    refine r_iload (q := 996) dL_law_994 rfl rfl ?_
    refine r_iconst (q := 997) (v := 1) dL_law_996 rfl rfl ?_
    refine r_iadd (q := 998) dL_law_997 rfl ?_
    refine r_sld (q := 999) dL_law_998 (vi1 hI hE) rfl ?_
    refine r_aload_n (q := 1000) dL_law_999 rfl rfl rfl ?_
    refine r_iload (q := 1002) dL_law_1000 rfl rfl ?_
    refine r_iconst (q := 1003) (v := 2) dL_law_1002 rfl rfl ?_
    refine r_iadd (q := 1004) dL_law_1003 rfl ?_
    refine r_sld (q := 1005) dL_law_1004 (vi2 hI hE) rfl ?_
    refine r_if_eq (q := 1012) (q2 := 1008) dL_law_1005 (by decide) rfl (fun h9 => absurd h9 hz) (fun _ => ?_)
    refine r_iconst (q := 1009) (v := 1) dL_law_1008 rfl rfl ?_
    refine r_goto (q := 1013) dL_law_1009 (by decide) ?_
    refine r_aload_n (q := 1014) dL_law_1013 rfl rfl rfl ?_
    refine r_callSH (q := 1017) (As := [_, _, _, _]) dL_law_1014 s_L_law_183 rfl rfl (Nat.le_of_ble_eq_true rfl) rfl rfl rfl (Nat.le_trans (Nat.add_le_add_left (Nat.le_of_ble_eq_true rfl) k) hk) (Nat.le_trans (Nat.add_le_add_left (Nat.le_of_ble_eq_true rfl) n) hn) ⟨Nat.le_trans (Nat.add_le_add_left (Nat.le_of_ble_eq_true rfl) k) hk, Nat.le_trans (Nat.add_le_add_left (Nat.le_of_ble_eq_true rfl) n) hn⟩ rfl ?_
    refine ct_L_heaterOf S0.1 hA (ls_ax S0.2.2.1 (by omega) (by omega)) (by have := S0.2.2.2; omega) hk9 c1 (fun u h2 q1 q2 q3 q4 => ?_)
    refine tw_join (Pp := xNext M_L_law E Po w0 1017 (LL E x I) [] _ _) S0 SA q2 q3 q4 (fun u2 T => ?_)
    show WF M_L_law E Po w0 1017 (LL E x I) [.int (nI k9)] u2 _ _
    refine WF.wide (k2 := k + 40) (n2 := n + 4000) ?_ (Nat.add_le_add_left (Nat.le_of_ble_eq_true rfl) k) (Nat.add_le_add_left (Nat.le_of_ble_eq_true rfl) n)
    refine r_istore (q := 1019) dL_law_1017 (Nat.le_of_ble_eq_true rfl) (xone_of rfl) rfl ?_
    refine WF.cw (md_of T.1.2.1).symm ?_
    refine r_aload_n (q := 1020) dL_law_1019 rfl rfl rfl ?_
    refine r_aload_n (q := 1021) dL_law_1020 rfl rfl rfl ?_
    refine r_iload (q := 1023) dL_law_1021 rfl rfl ?_
    refine r_iconst (q := 1024) (v := 1) dL_law_1023 rfl rfl ?_
    refine r_iadd (q := 1025) dL_law_1024 rfl ?_
    refine r_sld (q := 1026) dL_law_1025 (vi1 hI hE) rfl ?_
    refine r_aload_n (q := 1027) dL_law_1026 rfl rfl rfl ?_
    refine r_iload (q := 1029) dL_law_1027 rfl rfl ?_
    refine r_iconst (q := 1030) (v := 2) dL_law_1029 rfl rfl ?_
    refine r_iadd (q := 1031) dL_law_1030 rfl ?_
    refine r_sld (q := 1032) dL_law_1031 (vi2 hI hE) rfl ?_
    refine r_if_eq (q := 1039) (q2 := 1035) dL_law_1032 (by decide) rfl (fun h9 => absurd h9 hz) (fun _ => ?_)
    refine r_iconst (q := 1036) (v := 1) dL_law_1035 rfl rfl ?_
    refine r_goto (q := 1040) dL_law_1036 (by decide) ?_
    refine r_callV (q := 1043) (ci := 12) (As := [_, _]) dL_law_1040 s_L_law_186 md_g0 rfl rfl rfl (Nat.le_of_ble_eq_true rfl) rfl rfl rfl hk hn ⟨hk, hn⟩ rfl ?_
    refine c2 _ _ (fun d2 r2 o2 t2 qo => ?_)
    obtain ⟨I2, e2⟩ := c3 h2 d2 r2 o2 t2 q1 qo
    show WF M_L_law E Po w0 1043 _ [.int v2] _ _ _
    refine r_istore (q := 1045) dL_law_1043 (Nat.le_of_ble_eq_true rfl) (xone_of rfl) rfl ?_
    refine r_aload_n (q := 1046) dL_law_1045 rfl rfl rfl ?_
    refine r_callV (q := 1049) (ci := 12) (As := []) dL_law_1046 s_L_law_142 md_g0 rfl rfl rfl (Nat.le_of_ble_eq_true rfl) rfl rfl rfl hk hn ⟨hk, hn⟩ rfl ?_
    refine ct_X10_thrown ?_
    show WF M_L_law E Po w0 1049 _ [.int (o2 2)] _ _ _
    rw [e2]
    refine r_iload (q := 1051) dL_law_1049 rfl rfl ?_
    refine r_icmp_eq (q := 1056) (q2 := 1054) dL_law_1051 (by decide) rfl (fun _ => ?_) (fun h9 => absurd rfl h9)
    refine r_iload (q := 1058) dL_law_1056 rfl rfl ?_
    obtain ⟨TW0, TWA, f, hf, hfv⟩ := T
    have key : WF M_L_law E Po w0 1073 (((LL E x I).set 6 (some (.int (nI k9)))).set 7 (some (.int v2))) [] (md E u2 (x + 331) d2 r2 o2 t2) (k + 40) (n + 4000) := by
      refine r_goto (q := 2259) dL_law_1073 (by decide) ?_
      refine WF.drop 6 (WF.drop 7 ?_)
      exact kx _ h2 d2 r2 o2 t2 ⟨TW0.md, TWA.md, I2⟩
    refine r_if_ne (q := 1073) (q2 := 1061) dL_law_1058 (by decide) rfl (fun _ => key) (fun h9 => ?_)
    have k0 : k9 = 0 := nI_inj (b := 0) (by have : k9 ≤ 1 := hk9; omega) (by decide) h9
    refine r_aload_n (q := 1062) dL_law_1061 rfl rfl rfl ?_
    refine r_iconst (q := 1063) (v := 0) dL_law_1062 rfl rfl ?_
    refine r_laload (q := 1064) dL_law_1063 ((md_out (Or.inr (by omega))).trans hf) (show vp_in 0 1 from vp_in_nI (n := 0) (by decide) (by decide)) rfl ?_
    refine r_iload (q := 1066) dL_law_1064 rfl rfl ?_
    refine r_i2l (q := 1067) dL_law_1066 rfl ?_
    refine r_lcmp (q := 1068) dL_law_1067 rfl ?_
    rw [show lg_cmp (f (0 : Int32).toNatClampNeg) v2.toInt64 = 0 from by rw [show f (0 : Int32).toNatClampNeg = v.toInt64 from hfv k0, hv k0, lcmp_s]]
    exact r_if_eq (q := 1073) (q2 := 1071) dL_law_1068 (by decide) rfl (fun _ => key) (fun h9 => absurd rfl h9)
set_option maxRecDepth 100000 in
set_option maxHeartbeats 4000000 in
theorem lc_heat {E : xE} {Po : xPo} {w0 w : xW} {x K I k n : Nat} {h : xHi} {d : xCo} {r : mRs} {o : Nat → Int32} {t : mTx} (S : LWS E w x K h d r o t) (hK : K + 15000 < 16000000) (hk : k + 40 ≤ 603072) (hn : n + 4000 ≤ 7227498) (hI : I + 2 < E.2.2.2.1) (hE : E.2.2.2.1 < 100000) (kx : ∀ u h2 d2 r2 o2 t2, LWS E u x (K + 15000) h2 d2 r2 o2 t2 → WF M_L_law E Po w0 2259 (LL E x I) [] u (k + 40) (n + 4000)) : WF M_L_law E Po w0 1076 (LL E x I) [] w k n := by
  obtain ⟨S0, SA, I9⟩ := S
  obtain ⟨k9, v, v2, Qh, Qo, hk9, hv, c1, c2, c3⟩ := pr_heat (E := E) (x := x) (m := x + 331) (y := E.2.2.2.2 (nI I + 1).toNatClampNeg) (s := E.2.2.2.2 (nI I + 2).toNatClampNeg) I9 hK w S0.1
  obtain ⟨f0, hA⟩ := id SA.1
  refine r_aload_n (q := 1077) dL_law_1076 rfl rfl rfl ?_
  refine r_aload_n (q := 1078) dL_law_1077 rfl rfl rfl ?_
  refine r_iload (q := 1080) dL_law_1078 rfl rfl ?_
  refine r_iconst (q := 1081) (v := 1) dL_law_1080 rfl rfl ?_
  refine r_iadd (q := 1082) dL_law_1081 rfl ?_
  refine r_sld (q := 1083) dL_law_1082 (vi1 hI hE) rfl ?_
  refine r_aload_n (q := 1084) dL_law_1083 rfl rfl rfl ?_
  refine r_iload (q := 1086) dL_law_1084 rfl rfl ?_
  refine r_iconst (q := 1087) (v := 2) dL_law_1086 rfl rfl ?_
  refine r_iadd (q := 1088) dL_law_1087 rfl ?_
  refine r_sld (q := 1089) dL_law_1088 (vi2 hI hE) rfl ?_
  refine r_aload_n (q := 1090) dL_law_1089 rfl rfl rfl ?_
  refine r_callSH (q := 1093) (As := [_, _, _, _]) dL_law_1090 s_L_law_187 rfl rfl (Nat.le_of_ble_eq_true rfl) rfl rfl rfl (Nat.le_trans (Nat.add_le_add_left (Nat.le_of_ble_eq_true rfl) k) hk) (Nat.le_trans (Nat.add_le_add_left (Nat.le_of_ble_eq_true rfl) n) hn) ⟨Nat.le_trans (Nat.add_le_add_left (Nat.le_of_ble_eq_true rfl) k) hk, Nat.le_trans (Nat.add_le_add_left (Nat.le_of_ble_eq_true rfl) n) hn⟩ rfl ?_
  refine ct_L_heat S0.1 hA (ls_ax S0.2.2.1 (by omega) (by omega)) (by have := S0.2.2.2; omega) hk9 c1 (fun u h2 q1 q2 q3 q4 => ?_)
  refine tw_join (Pp := xNext M_L_law E Po w0 1093 (LL E x I) [] _ _) S0 SA q2 q3 q4 (fun u2 T => ?_)
  show WF M_L_law E Po w0 1093 (LL E x I) [.int (nI k9)] u2 _ _
  refine WF.wide (k2 := k + 40) (n2 := n + 4000) ?_ (Nat.add_le_add_left (Nat.le_of_ble_eq_true rfl) k) (Nat.add_le_add_left (Nat.le_of_ble_eq_true rfl) n)
  refine r_istore (q := 1095) dL_law_1093 (Nat.le_of_ble_eq_true rfl) (xone_of rfl) rfl ?_
  refine WF.cw (md_of T.1.2.1).symm ?_
  refine r_aload_n (q := 1096) dL_law_1095 rfl rfl rfl ?_
  refine r_aload_n (q := 1097) dL_law_1096 rfl rfl rfl ?_
  refine r_iload (q := 1099) dL_law_1097 rfl rfl ?_
  refine r_iconst (q := 1100) (v := 1) dL_law_1099 rfl rfl ?_
  refine r_iadd (q := 1101) dL_law_1100 rfl ?_
  refine r_sld (q := 1102) dL_law_1101 (vi1 hI hE) rfl ?_
  refine r_aload_n (q := 1103) dL_law_1102 rfl rfl rfl ?_
  refine r_iload (q := 1105) dL_law_1103 rfl rfl ?_
  refine r_iconst (q := 1106) (v := 2) dL_law_1105 rfl rfl ?_
  refine r_iadd (q := 1107) dL_law_1106 rfl ?_
  refine r_sld (q := 1108) dL_law_1107 (vi2 hI hE) rfl ?_
  refine r_callV (q := 1111) (ci := 12) (As := [_, _]) dL_law_1108 s_L_law_189 md_g0 rfl rfl rfl (Nat.le_of_ble_eq_true rfl) rfl rfl rfl hk hn ⟨hk, hn⟩ rfl ?_
  refine c2 _ _ (fun d2 r2 o2 t2 qo => ?_)
  obtain ⟨I2, e2⟩ := c3 h2 d2 r2 o2 t2 q1 qo
  show WF M_L_law E Po w0 1111 _ [.int v2] _ _ _
  refine r_istore (q := 1113) dL_law_1111 (Nat.le_of_ble_eq_true rfl) (xone_of rfl) rfl ?_
  refine r_aload_n (q := 1114) dL_law_1113 rfl rfl rfl ?_
  refine r_callV (q := 1117) (ci := 12) (As := []) dL_law_1114 s_L_law_142 md_g0 rfl rfl rfl (Nat.le_of_ble_eq_true rfl) rfl rfl rfl hk hn ⟨hk, hn⟩ rfl ?_
  refine ct_X10_thrown ?_
  show WF M_L_law E Po w0 1117 _ [.int (o2 2)] _ _ _
  rw [e2]
  refine r_iload (q := 1119) dL_law_1117 rfl rfl ?_
  refine r_icmp_eq (q := 1124) (q2 := 1122) dL_law_1119 (by decide) rfl (fun _ => ?_) (fun h9 => absurd rfl h9)
  refine r_iload (q := 1126) dL_law_1124 rfl rfl ?_
  obtain ⟨TW0, TWA, f, hf, hfv⟩ := T
  have key : WF M_L_law E Po w0 1141 (((LL E x I).set 6 (some (.int (nI k9)))).set 7 (some (.int v2))) [] (md E u2 (x + 331) d2 r2 o2 t2) (k + 40) (n + 4000) := by
    refine r_goto (q := 2259) dL_law_1141 (by decide) ?_
    refine WF.drop 6 (WF.drop 7 ?_)
    exact kx _ h2 d2 r2 o2 t2 ⟨TW0.md, TWA.md, I2⟩
  refine r_if_ne (q := 1141) (q2 := 1129) dL_law_1126 (by decide) rfl (fun _ => key) (fun h9 => ?_)
  have k0 : k9 = 0 := nI_inj (b := 0) (by have : k9 ≤ 2 := hk9; omega) (by decide) h9
  refine r_aload_n (q := 1130) dL_law_1129 rfl rfl rfl ?_
  refine r_iconst (q := 1131) (v := 0) dL_law_1130 rfl rfl ?_
  refine r_laload (q := 1132) dL_law_1131 ((md_out (Or.inr (by omega))).trans hf) (show vp_in 0 1 from vp_in_nI (n := 0) (by decide) (by decide)) rfl ?_
  refine r_iload (q := 1134) dL_law_1132 rfl rfl ?_
  refine r_i2l (q := 1135) dL_law_1134 rfl ?_
  refine r_lcmp (q := 1136) dL_law_1135 rfl ?_
  rw [show lg_cmp (f (0 : Int32).toNatClampNeg) v2.toInt64 = 0 from by rw [show f (0 : Int32).toNatClampNeg = v.toInt64 from hfv k0, hv k0, lcmp_s]]
  exact r_if_eq (q := 1141) (q2 := 1139) dL_law_1136 (by decide) rfl (fun _ => key) (fun h9 => absurd rfl h9)
set_option maxRecDepth 100000 in
set_option maxHeartbeats 4000000 in
theorem lc_cold {E : xE} {Po : xPo} {w0 w : xW} {x K I k n : Nat} {h : xHi} {d : xCo} {r : mRs} {o : Nat → Int32} {t : mTx} (S : LWS E w x K h d r o t) (hK : K + 15000 < 16000000) (hk : k + 40 ≤ 603072) (hn : n + 4000 ≤ 7227498) (hI : I + 2 < E.2.2.2.1) (hE : E.2.2.2.1 < 100000) (kx : ∀ u h2 d2 r2 o2 t2, LWS E u x (K + 15000) h2 d2 r2 o2 t2 → WF M_L_law E Po w0 2259 (LL E x I) [] u (k + 40) (n + 4000)) : WF M_L_law E Po w0 1144 (LL E x I) [] w k n := by
  obtain ⟨S0, SA, I9⟩ := S
  obtain ⟨k9, v, v2, Qh, Qo, hk9, hv, c1, c2, c3⟩ := pr_cold (E := E) (x := x) (m := x + 331) (y := E.2.2.2.2 (nI I + 1).toNatClampNeg) I9 hK w S0.1
  obtain ⟨f0, hA⟩ := id SA.1
  refine r_aload_n (q := 1145) dL_law_1144 rfl rfl rfl ?_
  refine r_aload_n (q := 1146) dL_law_1145 rfl rfl rfl ?_
  refine r_iload (q := 1148) dL_law_1146 rfl rfl ?_
  refine r_iconst (q := 1149) (v := 1) dL_law_1148 rfl rfl ?_
  refine r_iadd (q := 1150) dL_law_1149 rfl ?_
  refine r_sld (q := 1151) dL_law_1150 (vi1 hI hE) rfl ?_
  refine r_aload_n (q := 1152) dL_law_1151 rfl rfl rfl ?_
  refine r_callSH (q := 1155) (As := [_, _, _]) dL_law_1152 s_L_law_190 rfl rfl (Nat.le_of_ble_eq_true rfl) rfl rfl rfl (Nat.le_trans (Nat.add_le_add_left (Nat.le_of_ble_eq_true rfl) k) hk) (Nat.le_trans (Nat.add_le_add_left (Nat.le_of_ble_eq_true rfl) n) hn) ⟨Nat.le_trans (Nat.add_le_add_left (Nat.le_of_ble_eq_true rfl) k) hk, Nat.le_trans (Nat.add_le_add_left (Nat.le_of_ble_eq_true rfl) n) hn⟩ rfl ?_
  refine ct_L_cold S0.1 hA (ls_ax S0.2.2.1 (by omega) (by omega)) (by have := S0.2.2.2; omega) hk9 c1 (fun u h2 q1 q2 q3 q4 => ?_)
  refine tw_join (Pp := xNext M_L_law E Po w0 1155 (LL E x I) [] _ _) S0 SA q2 q3 q4 (fun u2 T => ?_)
  show WF M_L_law E Po w0 1155 (LL E x I) [.int (nI k9)] u2 _ _
  refine WF.wide (k2 := k + 40) (n2 := n + 4000) ?_ (Nat.add_le_add_left (Nat.le_of_ble_eq_true rfl) k) (Nat.add_le_add_left (Nat.le_of_ble_eq_true rfl) n)
  refine r_istore (q := 1157) dL_law_1155 (Nat.le_of_ble_eq_true rfl) (xone_of rfl) rfl ?_
  refine WF.cw (md_of T.1.2.1).symm ?_
  refine r_aload_n (q := 1158) dL_law_1157 rfl rfl rfl ?_
  refine r_aload_n (q := 1159) dL_law_1158 rfl rfl rfl ?_
  refine r_iload (q := 1161) dL_law_1159 rfl rfl ?_
  refine r_iconst (q := 1162) (v := 1) dL_law_1161 rfl rfl ?_
  refine r_iadd (q := 1163) dL_law_1162 rfl ?_
  refine r_sld (q := 1164) dL_law_1163 (vi1 hI hE) rfl ?_
  refine r_callV (q := 1167) (ci := 12) (As := [_]) dL_law_1164 s_L_law_192 md_g0 rfl rfl rfl (Nat.le_of_ble_eq_true rfl) rfl rfl rfl hk hn ⟨hk, hn⟩ rfl ?_
  refine c2 _ _ (fun d2 r2 o2 t2 qo => ?_)
  obtain ⟨I2, e2⟩ := c3 h2 d2 r2 o2 t2 q1 qo
  show WF M_L_law E Po w0 1167 _ [.int v2] _ _ _
  refine r_istore (q := 1169) dL_law_1167 (Nat.le_of_ble_eq_true rfl) (xone_of rfl) rfl ?_
  refine r_aload_n (q := 1170) dL_law_1169 rfl rfl rfl ?_
  refine r_callV (q := 1173) (ci := 12) (As := []) dL_law_1170 s_L_law_142 md_g0 rfl rfl rfl (Nat.le_of_ble_eq_true rfl) rfl rfl rfl hk hn ⟨hk, hn⟩ rfl ?_
  refine ct_X10_thrown ?_
  show WF M_L_law E Po w0 1173 _ [.int (o2 2)] _ _ _
  rw [e2]
  refine r_iload (q := 1175) dL_law_1173 rfl rfl ?_
  refine r_icmp_eq (q := 1180) (q2 := 1178) dL_law_1175 (by decide) rfl (fun _ => ?_) (fun h9 => absurd rfl h9)
  refine r_iload (q := 1182) dL_law_1180 rfl rfl ?_
  obtain ⟨TW0, TWA, f, hf, hfv⟩ := T
  have key : WF M_L_law E Po w0 1197 (((LL E x I).set 6 (some (.int (nI k9)))).set 7 (some (.int v2))) [] (md E u2 (x + 331) d2 r2 o2 t2) (k + 40) (n + 4000) := by
    refine r_goto (q := 2259) dL_law_1197 (by decide) ?_
    refine WF.drop 6 (WF.drop 7 ?_)
    exact kx _ h2 d2 r2 o2 t2 ⟨TW0.md, TWA.md, I2⟩
  refine r_if_ne (q := 1197) (q2 := 1185) dL_law_1182 (by decide) rfl (fun _ => key) (fun h9 => ?_)
  have k0 : k9 = 0 := nI_inj (b := 0) (by have : k9 ≤ 2 := hk9; omega) (by decide) h9
  refine r_aload_n (q := 1186) dL_law_1185 rfl rfl rfl ?_
  refine r_iconst (q := 1187) (v := 0) dL_law_1186 rfl rfl ?_
  refine r_laload (q := 1188) dL_law_1187 ((md_out (Or.inr (by omega))).trans hf) (show vp_in 0 1 from vp_in_nI (n := 0) (by decide) (by decide)) rfl ?_
  refine r_iload (q := 1190) dL_law_1188 rfl rfl ?_
  refine r_i2l (q := 1191) dL_law_1190 rfl ?_
  refine r_lcmp (q := 1192) dL_law_1191 rfl ?_
  rw [show lg_cmp (f (0 : Int32).toNatClampNeg) v2.toInt64 = 0 from by rw [show f (0 : Int32).toNatClampNeg = v.toInt64 from hfv k0, hv k0, lcmp_s]]
  exact r_if_eq (q := 1197) (q2 := 1195) dL_law_1192 (by decide) rfl (fun _ => key) (fun h9 => absurd rfl h9)
set_option maxRecDepth 100000 in
set_option maxHeartbeats 4000000 in
theorem lc_gas {E : xE} {Po : xPo} {w0 w : xW} {x K I k n : Nat} {h : xHi} {d : xCo} {r : mRs} {o : Nat → Int32} {t : mTx} (S : LWS E w x K h d r o t) (hK : K + 15000 < 16000000) (hk : k + 40 ≤ 603072) (hn : n + 4000 ≤ 7227498) (hI : I + 2 < E.2.2.2.1) (hE : E.2.2.2.1 < 100000) (kx : ∀ u h2 d2 r2 o2 t2, LWS E u x (K + 15000) h2 d2 r2 o2 t2 → WF M_L_law E Po w0 2259 (LL E x I) [] u (k + 40) (n + 4000)) : WF M_L_law E Po w0 1200 (LL E x I) [] w k n := by
  obtain ⟨S0, SA, I9⟩ := S
  obtain ⟨k9, v, v2, Qh, Qo, hk9, hv, c1, c2, c3⟩ := pr_gas (E := E) (x := x) (m := x + 331) (y := E.2.2.2.2 (nI I + 1).toNatClampNeg) (s := E.2.2.2.2 (nI I + 2).toNatClampNeg) I9 hK w S0.1
  obtain ⟨f0, hA⟩ := id SA.1
  refine r_aload_n (q := 1201) dL_law_1200 rfl rfl rfl ?_
  refine r_aload_n (q := 1202) dL_law_1201 rfl rfl rfl ?_
  refine r_iload (q := 1204) dL_law_1202 rfl rfl ?_
  refine r_iconst (q := 1205) (v := 1) dL_law_1204 rfl rfl ?_
  refine r_iadd (q := 1206) dL_law_1205 rfl ?_
  refine r_sld (q := 1207) dL_law_1206 (vi1 hI hE) rfl ?_
  refine r_aload_n (q := 1208) dL_law_1207 rfl rfl rfl ?_
  refine r_iload (q := 1210) dL_law_1208 rfl rfl ?_
  refine r_iconst (q := 1211) (v := 2) dL_law_1210 rfl rfl ?_
  refine r_iadd (q := 1212) dL_law_1211 rfl ?_
  refine r_sld (q := 1213) dL_law_1212 (vi2 hI hE) rfl ?_
  refine r_aload_n (q := 1214) dL_law_1213 rfl rfl rfl ?_
  refine r_callSH (q := 1217) (As := [_, _, _, _]) dL_law_1214 s_L_law_193 rfl rfl (Nat.le_of_ble_eq_true rfl) rfl rfl rfl (Nat.le_trans (Nat.add_le_add_left (Nat.le_of_ble_eq_true rfl) k) hk) (Nat.le_trans (Nat.add_le_add_left (Nat.le_of_ble_eq_true rfl) n) hn) ⟨Nat.le_trans (Nat.add_le_add_left (Nat.le_of_ble_eq_true rfl) k) hk, Nat.le_trans (Nat.add_le_add_left (Nat.le_of_ble_eq_true rfl) n) hn⟩ rfl ?_
  refine ct_L_gas S0.1 hA (ls_ax S0.2.2.1 (by omega) (by omega)) (by have := S0.2.2.2; omega) hk9 c1 (fun u h2 q1 q2 q3 q4 => ?_)
  refine tw_join (Pp := xNext M_L_law E Po w0 1217 (LL E x I) [] _ _) S0 SA q2 q3 q4 (fun u2 T => ?_)
  show WF M_L_law E Po w0 1217 (LL E x I) [.int (nI k9)] u2 _ _
  refine WF.wide (k2 := k + 40) (n2 := n + 4000) ?_ (Nat.add_le_add_left (Nat.le_of_ble_eq_true rfl) k) (Nat.add_le_add_left (Nat.le_of_ble_eq_true rfl) n)
  refine r_istore (q := 1219) dL_law_1217 (Nat.le_of_ble_eq_true rfl) (xone_of rfl) rfl ?_
  refine WF.cw (md_of T.1.2.1).symm ?_
  refine r_aload_n (q := 1220) dL_law_1219 rfl rfl rfl ?_
  refine r_aload_n (q := 1221) dL_law_1220 rfl rfl rfl ?_
  refine r_iload (q := 1223) dL_law_1221 rfl rfl ?_
  refine r_iconst (q := 1224) (v := 1) dL_law_1223 rfl rfl ?_
  refine r_iadd (q := 1225) dL_law_1224 rfl ?_
  refine r_sld (q := 1226) dL_law_1225 (vi1 hI hE) rfl ?_
  refine r_aload_n (q := 1227) dL_law_1226 rfl rfl rfl ?_
  refine r_iload (q := 1229) dL_law_1227 rfl rfl ?_
  refine r_iconst (q := 1230) (v := 2) dL_law_1229 rfl rfl ?_
  refine r_iadd (q := 1231) dL_law_1230 rfl ?_
  refine r_sld (q := 1232) dL_law_1231 (vi2 hI hE) rfl ?_
  refine r_callV (q := 1235) (ci := 12) (As := [_, _]) dL_law_1232 s_L_law_195 md_g0 rfl rfl rfl (Nat.le_of_ble_eq_true rfl) rfl rfl rfl hk hn ⟨hk, hn⟩ rfl ?_
  refine c2 _ _ (fun d2 r2 o2 t2 qo => ?_)
  obtain ⟨I2, e2⟩ := c3 h2 d2 r2 o2 t2 q1 qo
  show WF M_L_law E Po w0 1235 _ [.int v2] _ _ _
  refine r_istore (q := 1237) dL_law_1235 (Nat.le_of_ble_eq_true rfl) (xone_of rfl) rfl ?_
  refine r_aload_n (q := 1238) dL_law_1237 rfl rfl rfl ?_
  refine r_callV (q := 1241) (ci := 12) (As := []) dL_law_1238 s_L_law_142 md_g0 rfl rfl rfl (Nat.le_of_ble_eq_true rfl) rfl rfl rfl hk hn ⟨hk, hn⟩ rfl ?_
  refine ct_X10_thrown ?_
  show WF M_L_law E Po w0 1241 _ [.int (o2 2)] _ _ _
  rw [e2]
  refine r_iload (q := 1243) dL_law_1241 rfl rfl ?_
  refine r_icmp_eq (q := 1248) (q2 := 1246) dL_law_1243 (by decide) rfl (fun _ => ?_) (fun h9 => absurd rfl h9)
  refine r_iload (q := 1250) dL_law_1248 rfl rfl ?_
  obtain ⟨TW0, TWA, f, hf, hfv⟩ := T
  have key : WF M_L_law E Po w0 1265 (((LL E x I).set 6 (some (.int (nI k9)))).set 7 (some (.int v2))) [] (md E u2 (x + 331) d2 r2 o2 t2) (k + 40) (n + 4000) := by
    refine r_goto (q := 2259) dL_law_1265 (by decide) ?_
    refine WF.drop 6 (WF.drop 7 ?_)
    exact kx _ h2 d2 r2 o2 t2 ⟨TW0.md, TWA.md, I2⟩
  refine r_if_ne (q := 1265) (q2 := 1253) dL_law_1250 (by decide) rfl (fun _ => key) (fun h9 => ?_)
  have k0 : k9 = 0 := nI_inj (b := 0) (by have : k9 ≤ 3 := hk9; omega) (by decide) h9
  refine r_aload_n (q := 1254) dL_law_1253 rfl rfl rfl ?_
  refine r_iconst (q := 1255) (v := 0) dL_law_1254 rfl rfl ?_
  refine r_laload (q := 1256) dL_law_1255 ((md_out (Or.inr (by omega))).trans hf) (show vp_in 0 1 from vp_in_nI (n := 0) (by decide) (by decide)) rfl ?_
  refine r_iload (q := 1258) dL_law_1256 rfl rfl ?_
  refine r_i2l (q := 1259) dL_law_1258 rfl ?_
  refine r_lcmp (q := 1260) dL_law_1259 rfl ?_
  rw [show lg_cmp (f (0 : Int32).toNatClampNeg) v2.toInt64 = 0 from by rw [show f (0 : Int32).toNatClampNeg = v.toInt64 from hfv k0, hv k0, lcmp_s]]
  exact r_if_eq (q := 1265) (q2 := 1263) dL_law_1260 (by decide) rfl (fun _ => key) (fun h9 => absurd rfl h9)
set_option maxRecDepth 100000 in
set_option maxHeartbeats 4000000 in
theorem lc_wash {E : xE} {Po : xPo} {w0 w : xW} {x K I k n : Nat} {h : xHi} {d : xCo} {r : mRs} {o : Nat → Int32} {t : mTx} (S : LWS E w x K h d r o t) (hK : K + 15000 < 16000000) (hk : k + 40 ≤ 603072) (hn : n + 4000 ≤ 7227498) (hI : I + 2 < E.2.2.2.1) (hE : E.2.2.2.1 < 100000) (kx : ∀ u h2 d2 r2 o2 t2, LWS E u x (K + 15000) h2 d2 r2 o2 t2 → WF M_L_law E Po w0 2259 (LL E x I) [] u (k + 40) (n + 4000)) : WF M_L_law E Po w0 1268 (LL E x I) [] w k n := by
  obtain ⟨S0, SA, I9⟩ := S
  obtain ⟨k9, v, v2, Qh, Qo, hk9, hv, c1, c2, c3⟩ := pr_wash (E := E) (x := x) (m := x + 331) (y := E.2.2.2.2 (nI I + 1).toNatClampNeg) I9 hK w S0.1
  obtain ⟨f0, hA⟩ := id SA.1
  refine r_aload_n (q := 1269) dL_law_1268 rfl rfl rfl ?_
  refine r_aload_n (q := 1270) dL_law_1269 rfl rfl rfl ?_
  refine r_iload (q := 1272) dL_law_1270 rfl rfl ?_
  refine r_iconst (q := 1273) (v := 1) dL_law_1272 rfl rfl ?_
  refine r_iadd (q := 1274) dL_law_1273 rfl ?_
  refine r_sld (q := 1275) dL_law_1274 (vi1 hI hE) rfl ?_
  refine r_aload_n (q := 1276) dL_law_1275 rfl rfl rfl ?_
  refine r_callSH (q := 1279) (As := [_, _, _]) dL_law_1276 s_L_law_196 rfl rfl (Nat.le_of_ble_eq_true rfl) rfl rfl rfl (Nat.le_trans (Nat.add_le_add_left (Nat.le_of_ble_eq_true rfl) k) hk) (Nat.le_trans (Nat.add_le_add_left (Nat.le_of_ble_eq_true rfl) n) hn) ⟨Nat.le_trans (Nat.add_le_add_left (Nat.le_of_ble_eq_true rfl) k) hk, Nat.le_trans (Nat.add_le_add_left (Nat.le_of_ble_eq_true rfl) n) hn⟩ rfl ?_
  refine ct_L_wash S0.1 hA (ls_ax S0.2.2.1 (by omega) (by omega)) (by have := S0.2.2.2; omega) hk9 c1 (fun u h2 q1 q2 q3 q4 => ?_)
  refine tw_join (Pp := xNext M_L_law E Po w0 1279 (LL E x I) [] _ _) S0 SA q2 q3 q4 (fun u2 T => ?_)
  show WF M_L_law E Po w0 1279 (LL E x I) [.int (nI k9)] u2 _ _
  refine WF.wide (k2 := k + 40) (n2 := n + 4000) ?_ (Nat.add_le_add_left (Nat.le_of_ble_eq_true rfl) k) (Nat.add_le_add_left (Nat.le_of_ble_eq_true rfl) n)
  refine r_istore (q := 1281) dL_law_1279 (Nat.le_of_ble_eq_true rfl) (xone_of rfl) rfl ?_
  refine WF.cw (md_of T.1.2.1).symm ?_
  refine r_aload_n (q := 1282) dL_law_1281 rfl rfl rfl ?_
  refine r_aload_n (q := 1283) dL_law_1282 rfl rfl rfl ?_
  refine r_iload (q := 1285) dL_law_1283 rfl rfl ?_
  refine r_iconst (q := 1286) (v := 1) dL_law_1285 rfl rfl ?_
  refine r_iadd (q := 1287) dL_law_1286 rfl ?_
  refine r_sld (q := 1288) dL_law_1287 (vi1 hI hE) rfl ?_
  refine r_callV (q := 1291) (ci := 12) (As := [_]) dL_law_1288 s_L_law_198 md_g0 rfl rfl rfl (Nat.le_of_ble_eq_true rfl) rfl rfl rfl hk hn ⟨hk, hn⟩ rfl ?_
  refine c2 _ _ (fun d2 r2 o2 t2 qo => ?_)
  obtain ⟨I2, e2⟩ := c3 h2 d2 r2 o2 t2 q1 qo
  show WF M_L_law E Po w0 1291 _ [.int v2] _ _ _
  refine r_istore (q := 1293) dL_law_1291 (Nat.le_of_ble_eq_true rfl) (xone_of rfl) rfl ?_
  refine r_aload_n (q := 1294) dL_law_1293 rfl rfl rfl ?_
  refine r_callV (q := 1297) (ci := 12) (As := []) dL_law_1294 s_L_law_142 md_g0 rfl rfl rfl (Nat.le_of_ble_eq_true rfl) rfl rfl rfl hk hn ⟨hk, hn⟩ rfl ?_
  refine ct_X10_thrown ?_
  show WF M_L_law E Po w0 1297 _ [.int (o2 2)] _ _ _
  rw [e2]
  refine r_iload (q := 1299) dL_law_1297 rfl rfl ?_
  refine r_icmp_eq (q := 1304) (q2 := 1302) dL_law_1299 (by decide) rfl (fun _ => ?_) (fun h9 => absurd rfl h9)
  refine r_iload (q := 1306) dL_law_1304 rfl rfl ?_
  obtain ⟨TW0, TWA, f, hf, hfv⟩ := T
  have key : WF M_L_law E Po w0 1321 (((LL E x I).set 6 (some (.int (nI k9)))).set 7 (some (.int v2))) [] (md E u2 (x + 331) d2 r2 o2 t2) (k + 40) (n + 4000) := by
    refine r_goto (q := 2259) dL_law_1321 (by decide) ?_
    refine WF.drop 6 (WF.drop 7 ?_)
    exact kx _ h2 d2 r2 o2 t2 ⟨TW0.md, TWA.md, I2⟩
  refine r_if_ne (q := 1321) (q2 := 1309) dL_law_1306 (by decide) rfl (fun _ => key) (fun h9 => ?_)
  have k0 : k9 = 0 := nI_inj (b := 0) (by have : k9 ≤ 2 := hk9; omega) (by decide) h9
  refine r_aload_n (q := 1310) dL_law_1309 rfl rfl rfl ?_
  refine r_iconst (q := 1311) (v := 0) dL_law_1310 rfl rfl ?_
  refine r_laload (q := 1312) dL_law_1311 ((md_out (Or.inr (by omega))).trans hf) (show vp_in 0 1 from vp_in_nI (n := 0) (by decide) (by decide)) rfl ?_
  refine r_iload (q := 1314) dL_law_1312 rfl rfl ?_
  refine r_i2l (q := 1315) dL_law_1314 rfl ?_
  refine r_lcmp (q := 1316) dL_law_1315 rfl ?_
  rw [show lg_cmp (f (0 : Int32).toNatClampNeg) v2.toInt64 = 0 from by rw [show f (0 : Int32).toNatClampNeg = v.toInt64 from hfv k0, hv k0, lcmp_s]]
  exact r_if_eq (q := 1321) (q2 := 1319) dL_law_1316 (by decide) rfl (fun _ => key) (fun h9 => absurd rfl h9)
set_option maxRecDepth 100000 in
set_option maxHeartbeats 4000000 in
theorem lc_soap {E : xE} {Po : xPo} {w0 w : xW} {x K I k n : Nat} {h : xHi} {d : xCo} {r : mRs} {o : Nat → Int32} {t : mTx} (S : LWS E w x K h d r o t) (hK : K + 15000 < 16000000) (hk : k + 40 ≤ 603072) (hn : n + 4000 ≤ 7227498) (hI : I + 2 < E.2.2.2.1) (hE : E.2.2.2.1 < 100000) (kx : ∀ u h2 d2 r2 o2 t2, LWS E u x (K + 15000) h2 d2 r2 o2 t2 → WF M_L_law E Po w0 2259 (LL E x I) [] u (k + 40) (n + 4000)) : WF M_L_law E Po w0 1324 (LL E x I) [] w k n := by
  obtain ⟨S0, SA, I9⟩ := S
  obtain ⟨k9, v, v2, Qh, Qo, hk9, hv, c1, c2, c3⟩ := pr_soap (E := E) (x := x) (m := x + 331) (y := E.2.2.2.2 (nI I + 1).toNatClampNeg) I9 hK w S0.1
  obtain ⟨f0, hA⟩ := id SA.1
  refine r_aload_n (q := 1325) dL_law_1324 rfl rfl rfl ?_
  refine r_aload_n (q := 1326) dL_law_1325 rfl rfl rfl ?_
  refine r_iload (q := 1328) dL_law_1326 rfl rfl ?_
  refine r_iconst (q := 1329) (v := 1) dL_law_1328 rfl rfl ?_
  refine r_iadd (q := 1330) dL_law_1329 rfl ?_
  refine r_sld (q := 1331) dL_law_1330 (vi1 hI hE) rfl ?_
  refine r_aload_n (q := 1332) dL_law_1331 rfl rfl rfl ?_
  refine r_callSH (q := 1335) (As := [_, _, _]) dL_law_1332 s_L_law_199 rfl rfl (Nat.le_of_ble_eq_true rfl) rfl rfl rfl (Nat.le_trans (Nat.add_le_add_left (Nat.le_of_ble_eq_true rfl) k) hk) (Nat.le_trans (Nat.add_le_add_left (Nat.le_of_ble_eq_true rfl) n) hn) ⟨Nat.le_trans (Nat.add_le_add_left (Nat.le_of_ble_eq_true rfl) k) hk, Nat.le_trans (Nat.add_le_add_left (Nat.le_of_ble_eq_true rfl) n) hn⟩ rfl ?_
  refine ct_L_soap S0.1 hA (ls_ax S0.2.2.1 (by omega) (by omega)) (by have := S0.2.2.2; omega) hk9 c1 (fun u h2 q1 q2 q3 q4 => ?_)
  refine tw_join (Pp := xNext M_L_law E Po w0 1335 (LL E x I) [] _ _) S0 SA q2 q3 q4 (fun u2 T => ?_)
  show WF M_L_law E Po w0 1335 (LL E x I) [.int (nI k9)] u2 _ _
  refine WF.wide (k2 := k + 40) (n2 := n + 4000) ?_ (Nat.add_le_add_left (Nat.le_of_ble_eq_true rfl) k) (Nat.add_le_add_left (Nat.le_of_ble_eq_true rfl) n)
  refine r_istore (q := 1337) dL_law_1335 (Nat.le_of_ble_eq_true rfl) (xone_of rfl) rfl ?_
  refine WF.cw (md_of T.1.2.1).symm ?_
  refine r_aload_n (q := 1338) dL_law_1337 rfl rfl rfl ?_
  refine r_aload_n (q := 1339) dL_law_1338 rfl rfl rfl ?_
  refine r_iload (q := 1341) dL_law_1339 rfl rfl ?_
  refine r_iconst (q := 1342) (v := 1) dL_law_1341 rfl rfl ?_
  refine r_iadd (q := 1343) dL_law_1342 rfl ?_
  refine r_sld (q := 1344) dL_law_1343 (vi1 hI hE) rfl ?_
  refine r_callV (q := 1347) (ci := 12) (As := [_]) dL_law_1344 s_L_law_201 md_g0 rfl rfl rfl (Nat.le_of_ble_eq_true rfl) rfl rfl rfl hk hn ⟨hk, hn⟩ rfl ?_
  refine c2 _ _ (fun d2 r2 o2 t2 qo => ?_)
  obtain ⟨I2, e2⟩ := c3 h2 d2 r2 o2 t2 q1 qo
  show WF M_L_law E Po w0 1347 _ [.int v2] _ _ _
  refine r_istore (q := 1349) dL_law_1347 (Nat.le_of_ble_eq_true rfl) (xone_of rfl) rfl ?_
  refine r_aload_n (q := 1350) dL_law_1349 rfl rfl rfl ?_
  refine r_callV (q := 1353) (ci := 12) (As := []) dL_law_1350 s_L_law_142 md_g0 rfl rfl rfl (Nat.le_of_ble_eq_true rfl) rfl rfl rfl hk hn ⟨hk, hn⟩ rfl ?_
  refine ct_X10_thrown ?_
  show WF M_L_law E Po w0 1353 _ [.int (o2 2)] _ _ _
  rw [e2]
  refine r_iload (q := 1355) dL_law_1353 rfl rfl ?_
  refine r_icmp_eq (q := 1360) (q2 := 1358) dL_law_1355 (by decide) rfl (fun _ => ?_) (fun h9 => absurd rfl h9)
  refine r_iload (q := 1362) dL_law_1360 rfl rfl ?_
  obtain ⟨TW0, TWA, f, hf, hfv⟩ := T
  have key : WF M_L_law E Po w0 1377 (((LL E x I).set 6 (some (.int (nI k9)))).set 7 (some (.int v2))) [] (md E u2 (x + 331) d2 r2 o2 t2) (k + 40) (n + 4000) := by
    refine r_goto (q := 2259) dL_law_1377 (by decide) ?_
    refine WF.drop 6 (WF.drop 7 ?_)
    exact kx _ h2 d2 r2 o2 t2 ⟨TW0.md, TWA.md, I2⟩
  refine r_if_ne (q := 1377) (q2 := 1365) dL_law_1362 (by decide) rfl (fun _ => key) (fun h9 => ?_)
  have k0 : k9 = 0 := nI_inj (b := 0) (by have : k9 ≤ 2 := hk9; omega) (by decide) h9
  refine r_aload_n (q := 1366) dL_law_1365 rfl rfl rfl ?_
  refine r_iconst (q := 1367) (v := 0) dL_law_1366 rfl rfl ?_
  refine r_laload (q := 1368) dL_law_1367 ((md_out (Or.inr (by omega))).trans hf) (show vp_in 0 1 from vp_in_nI (n := 0) (by decide) (by decide)) rfl ?_
  refine r_iload (q := 1370) dL_law_1368 rfl rfl ?_
  refine r_i2l (q := 1371) dL_law_1370 rfl ?_
  refine r_lcmp (q := 1372) dL_law_1371 rfl ?_
  rw [show lg_cmp (f (0 : Int32).toNatClampNeg) v2.toInt64 = 0 from by rw [show f (0 : Int32).toNatClampNeg = v.toInt64 from hfv k0, hv k0, lcmp_s]]
  exact r_if_eq (q := 1377) (q2 := 1375) dL_law_1372 (by decide) rfl (fun _ => key) (fun h9 => absurd rfl h9)
set_option maxRecDepth 100000 in
set_option maxHeartbeats 4000000 in
theorem lc_pass {E : xE} {Po : xPo} {w0 w : xW} {x K I k n : Nat} {h : xHi} {d : xCo} {r : mRs} {o : Nat → Int32} {t : mTx} (S : LWS E w x K h d r o t) (hK : K + 15000 < 16000000) (hk : k + 40 ≤ 603072) (hn : n + 4000 ≤ 7227498) (hI : I + 2 < E.2.2.2.1) (hE : E.2.2.2.1 < 100000) (kx : ∀ u h2 d2 r2 o2 t2, LWS E u x (K + 15000) h2 d2 r2 o2 t2 → WF M_L_law E Po w0 2259 (LL E x I) [] u (k + 40) (n + 4000)) : WF M_L_law E Po w0 1380 (LL E x I) [] w k n := by
  obtain ⟨S0, SA, I9⟩ := S
  obtain ⟨k9, v, v2, Qh, Qo, hk9, hv, c1, c2, c3⟩ := pr_pass (E := E) (x := x) (m := x + 331) (y := E.2.2.2.2 (nI I + 1).toNatClampNeg) I9 hK w S0.1
  obtain ⟨f0, hA⟩ := id SA.1
  refine r_aload_n (q := 1381) dL_law_1380 rfl rfl rfl ?_
  refine r_aload_n (q := 1382) dL_law_1381 rfl rfl rfl ?_
  refine r_iload (q := 1384) dL_law_1382 rfl rfl ?_
  refine r_iconst (q := 1385) (v := 1) dL_law_1384 rfl rfl ?_
  refine r_iadd (q := 1386) dL_law_1385 rfl ?_
  refine r_sld (q := 1387) dL_law_1386 (vi1 hI hE) rfl ?_
  refine r_aload_n (q := 1388) dL_law_1387 rfl rfl rfl ?_
  refine r_callSH (q := 1391) (As := [_, _, _]) dL_law_1388 s_L_law_202 rfl rfl (Nat.le_of_ble_eq_true rfl) rfl rfl rfl (Nat.le_trans (Nat.add_le_add_left (Nat.le_of_ble_eq_true rfl) k) hk) (Nat.le_trans (Nat.add_le_add_left (Nat.le_of_ble_eq_true rfl) n) hn) ⟨Nat.le_trans (Nat.add_le_add_left (Nat.le_of_ble_eq_true rfl) k) hk, Nat.le_trans (Nat.add_le_add_left (Nat.le_of_ble_eq_true rfl) n) hn⟩ rfl ?_
  refine ct_L_pass S0.1 hA (ls_ax S0.2.2.1 (by omega) (by omega)) (by have := S0.2.2.2; omega) hk9 c1 (fun u h2 q1 q2 q3 q4 => ?_)
  refine tw_join (Pp := xNext M_L_law E Po w0 1391 (LL E x I) [] _ _) S0 SA q2 q3 q4 (fun u2 T => ?_)
  show WF M_L_law E Po w0 1391 (LL E x I) [.int (nI k9)] u2 _ _
  refine WF.wide (k2 := k + 40) (n2 := n + 4000) ?_ (Nat.add_le_add_left (Nat.le_of_ble_eq_true rfl) k) (Nat.add_le_add_left (Nat.le_of_ble_eq_true rfl) n)
  refine r_istore (q := 1393) dL_law_1391 (Nat.le_of_ble_eq_true rfl) (xone_of rfl) rfl ?_
  refine WF.cw (md_of T.1.2.1).symm ?_
  refine r_aload_n (q := 1394) dL_law_1393 rfl rfl rfl ?_
  refine r_aload_n (q := 1395) dL_law_1394 rfl rfl rfl ?_
  refine r_iload (q := 1397) dL_law_1395 rfl rfl ?_
  refine r_iconst (q := 1398) (v := 1) dL_law_1397 rfl rfl ?_
  refine r_iadd (q := 1399) dL_law_1398 rfl ?_
  refine r_sld (q := 1400) dL_law_1399 (vi1 hI hE) rfl ?_
  refine r_callV (q := 1403) (ci := 12) (As := [_]) dL_law_1400 s_L_law_204 md_g0 rfl rfl rfl (Nat.le_of_ble_eq_true rfl) rfl rfl rfl hk hn ⟨hk, hn⟩ rfl ?_
  refine c2 _ _ (fun d2 r2 o2 t2 qo => ?_)
  obtain ⟨I2, e2⟩ := c3 h2 d2 r2 o2 t2 q1 qo
  show WF M_L_law E Po w0 1403 _ [.int v2] _ _ _
  refine r_istore (q := 1405) dL_law_1403 (Nat.le_of_ble_eq_true rfl) (xone_of rfl) rfl ?_
  refine r_aload_n (q := 1406) dL_law_1405 rfl rfl rfl ?_
  refine r_callV (q := 1409) (ci := 12) (As := []) dL_law_1406 s_L_law_142 md_g0 rfl rfl rfl (Nat.le_of_ble_eq_true rfl) rfl rfl rfl hk hn ⟨hk, hn⟩ rfl ?_
  refine ct_X10_thrown ?_
  show WF M_L_law E Po w0 1409 _ [.int (o2 2)] _ _ _
  rw [e2]
  refine r_iload (q := 1411) dL_law_1409 rfl rfl ?_
  refine r_icmp_eq (q := 1416) (q2 := 1414) dL_law_1411 (by decide) rfl (fun _ => ?_) (fun h9 => absurd rfl h9)
  refine r_iload (q := 1418) dL_law_1416 rfl rfl ?_
  obtain ⟨TW0, TWA, f, hf, hfv⟩ := T
  have key : WF M_L_law E Po w0 1433 (((LL E x I).set 6 (some (.int (nI k9)))).set 7 (some (.int v2))) [] (md E u2 (x + 331) d2 r2 o2 t2) (k + 40) (n + 4000) := by
    refine r_goto (q := 2259) dL_law_1433 (by decide) ?_
    refine WF.drop 6 (WF.drop 7 ?_)
    exact kx _ h2 d2 r2 o2 t2 ⟨TW0.md, TWA.md, I2⟩
  refine r_if_ne (q := 1433) (q2 := 1421) dL_law_1418 (by decide) rfl (fun _ => key) (fun h9 => ?_)
  have k0 : k9 = 0 := nI_inj (b := 0) (by have : k9 ≤ 1 := hk9; omega) (by decide) h9
  refine r_aload_n (q := 1422) dL_law_1421 rfl rfl rfl ?_
  refine r_iconst (q := 1423) (v := 0) dL_law_1422 rfl rfl ?_
  refine r_laload (q := 1424) dL_law_1423 ((md_out (Or.inr (by omega))).trans hf) (show vp_in 0 1 from vp_in_nI (n := 0) (by decide) (by decide)) rfl ?_
  refine r_iload (q := 1426) dL_law_1424 rfl rfl ?_
  refine r_i2l (q := 1427) dL_law_1426 rfl ?_
  refine r_lcmp (q := 1428) dL_law_1427 rfl ?_
  rw [show lg_cmp (f (0 : Int32).toNatClampNeg) v2.toInt64 = 0 from by rw [show f (0 : Int32).toNatClampNeg = v.toInt64 from hfv k0, hv k0, lcmp_s]]
  exact r_if_eq (q := 1433) (q2 := 1431) dL_law_1428 (by decide) rfl (fun _ => key) (fun h9 => absurd rfl h9)
set_option maxRecDepth 100000 in
set_option maxHeartbeats 4000000 in
theorem lc_heatsIn {E : xE} {Po : xPo} {w0 w : xW} {x K I k n : Nat} {h : xHi} {d : xCo} {r : mRs} {o : Nat → Int32} {t : mTx} (S : LWS E w x K h d r o t) (hK : K + 15000 < 16000000) (hk : k + 40 ≤ 603072) (hn : n + 4000 ≤ 7227498) (hI : I + 2 < E.2.2.2.1) (hE : E.2.2.2.1 < 100000) (kx : ∀ u h2 d2 r2 o2 t2, LWS E u x (K + 15000) h2 d2 r2 o2 t2 → WF M_L_law E Po w0 2259 (LL E x I) [] u (k + 40) (n + 4000)) : WF M_L_law E Po w0 1436 (LL E x I) [] w k n := by
  obtain ⟨S0, SA, I9⟩ := S
  obtain ⟨k9, v, v2, Qh, Qo, hk9, hv, c1, c2, c3⟩ := pr_heatsIn (E := E) (x := x) (m := x + 331) (z := E.2.2.2.2 (nI I + 1).toNatClampNeg) (y := E.2.2.2.2 (nI I + 2).toNatClampNeg) I9 w S0.1
  obtain ⟨f0, hA⟩ := id SA.1
  refine r_aload_n (q := 1437) dL_law_1436 rfl rfl rfl ?_
  refine r_aload_n (q := 1438) dL_law_1437 rfl rfl rfl ?_
  refine r_iload (q := 1440) dL_law_1438 rfl rfl ?_
  refine r_iconst (q := 1441) (v := 1) dL_law_1440 rfl rfl ?_
  refine r_iadd (q := 1442) dL_law_1441 rfl ?_
  refine r_sld (q := 1443) dL_law_1442 (vi1 hI hE) rfl ?_
  refine r_aload_n (q := 1444) dL_law_1443 rfl rfl rfl ?_
  refine r_iload (q := 1446) dL_law_1444 rfl rfl ?_
  refine r_iconst (q := 1447) (v := 2) dL_law_1446 rfl rfl ?_
  refine r_iadd (q := 1448) dL_law_1447 rfl ?_
  refine r_sld (q := 1449) dL_law_1448 (vi2 hI hE) rfl ?_
  refine r_aload_n (q := 1450) dL_law_1449 rfl rfl rfl ?_
  refine r_callSH (q := 1453) (As := [_, _, _, _]) dL_law_1450 s_L_law_205 rfl rfl (Nat.le_of_ble_eq_true rfl) rfl rfl rfl (Nat.le_trans (Nat.add_le_add_left (Nat.le_of_ble_eq_true rfl) k) hk) (Nat.le_trans (Nat.add_le_add_left (Nat.le_of_ble_eq_true rfl) n) hn) ⟨Nat.le_trans (Nat.add_le_add_left (Nat.le_of_ble_eq_true rfl) k) hk, Nat.le_trans (Nat.add_le_add_left (Nat.le_of_ble_eq_true rfl) n) hn⟩ rfl ?_
  refine ct_L_heatsIn S0.1 hA (ls_ax S0.2.2.1 (by omega) (by omega)) (by have := S0.2.2.2; omega) hk9 c1 (fun u h2 q1 q2 q3 q4 => ?_)
  refine tw_join (Pp := xNext M_L_law E Po w0 1453 (LL E x I) [] _ _) S0 SA q2 q3 q4 (fun u2 T => ?_)
  show WF M_L_law E Po w0 1453 (LL E x I) [.int (nI k9)] u2 _ _
  refine WF.wide (k2 := k + 40) (n2 := n + 4000) ?_ (Nat.add_le_add_left (Nat.le_of_ble_eq_true rfl) k) (Nat.add_le_add_left (Nat.le_of_ble_eq_true rfl) n)
  refine r_istore (q := 1455) dL_law_1453 (Nat.le_of_ble_eq_true rfl) (xone_of rfl) rfl ?_
  refine WF.cw (md_of T.1.2.1).symm ?_
  refine r_aload_n (q := 1456) dL_law_1455 rfl rfl rfl ?_
  refine r_aload_n (q := 1457) dL_law_1456 rfl rfl rfl ?_
  refine r_iload (q := 1459) dL_law_1457 rfl rfl ?_
  refine r_iconst (q := 1460) (v := 1) dL_law_1459 rfl rfl ?_
  refine r_iadd (q := 1461) dL_law_1460 rfl ?_
  refine r_sld (q := 1462) dL_law_1461 (vi1 hI hE) rfl ?_
  refine r_aload_n (q := 1463) dL_law_1462 rfl rfl rfl ?_
  refine r_iload (q := 1465) dL_law_1463 rfl rfl ?_
  refine r_iconst (q := 1466) (v := 2) dL_law_1465 rfl rfl ?_
  refine r_iadd (q := 1467) dL_law_1466 rfl ?_
  refine r_sld (q := 1468) dL_law_1467 (vi2 hI hE) rfl ?_
  refine r_callV (q := 1471) (ci := 12) (As := [_, _]) dL_law_1468 s_L_law_207 md_g0 rfl rfl rfl (Nat.le_of_ble_eq_true rfl) rfl rfl rfl hk hn ⟨hk, hn⟩ rfl ?_
  refine c2 _ _ (fun d2 r2 o2 t2 qo => ?_)
  obtain ⟨I2, e2⟩ := c3 h2 d2 r2 o2 t2 q1 qo
  show WF M_L_law E Po w0 1471 _ [.int v2] _ _ _
  refine r_istore (q := 1473) dL_law_1471 (Nat.le_of_ble_eq_true rfl) (xone_of rfl) rfl ?_
  refine r_aload_n (q := 1474) dL_law_1473 rfl rfl rfl ?_
  refine r_callV (q := 1477) (ci := 12) (As := []) dL_law_1474 s_L_law_142 md_g0 rfl rfl rfl (Nat.le_of_ble_eq_true rfl) rfl rfl rfl hk hn ⟨hk, hn⟩ rfl ?_
  refine ct_X10_thrown ?_
  show WF M_L_law E Po w0 1477 _ [.int (o2 2)] _ _ _
  rw [e2]
  refine r_iload (q := 1479) dL_law_1477 rfl rfl ?_
  refine r_icmp_eq (q := 1484) (q2 := 1482) dL_law_1479 (by decide) rfl (fun _ => ?_) (fun h9 => absurd rfl h9)
  refine r_iload (q := 1486) dL_law_1484 rfl rfl ?_
  obtain ⟨TW0, TWA, f, hf, hfv⟩ := T
  have key : WF M_L_law E Po w0 1501 (((LL E x I).set 6 (some (.int (nI k9)))).set 7 (some (.int v2))) [] (md E u2 (x + 331) d2 r2 o2 t2) (k + 40) (n + 4000) := by
    refine r_goto (q := 2259) dL_law_1501 (by decide) ?_
    refine WF.drop 6 (WF.drop 7 ?_)
    exact kx _ h2 d2 r2 o2 t2 ⟨TW0.md, TWA.md, I2⟩
  refine r_if_ne (q := 1501) (q2 := 1489) dL_law_1486 (by decide) rfl (fun _ => key) (fun h9 => ?_)
  have k0 : k9 = 0 := nI_inj (b := 0) (by have : k9 ≤ 1 := hk9; omega) (by decide) h9
  refine r_aload_n (q := 1490) dL_law_1489 rfl rfl rfl ?_
  refine r_iconst (q := 1491) (v := 0) dL_law_1490 rfl rfl ?_
  refine r_laload (q := 1492) dL_law_1491 ((md_out (Or.inr (by omega))).trans hf) (show vp_in 0 1 from vp_in_nI (n := 0) (by decide) (by decide)) rfl ?_
  refine r_iload (q := 1494) dL_law_1492 rfl rfl ?_
  refine r_i2l (q := 1495) dL_law_1494 rfl ?_
  refine r_lcmp (q := 1496) dL_law_1495 rfl ?_
  rw [show lg_cmp (f (0 : Int32).toNatClampNeg) v2.toInt64 = 0 from by rw [show f (0 : Int32).toNatClampNeg = v.toInt64 from hfv k0, hv k0, lcmp_s]]
  exact r_if_eq (q := 1501) (q2 := 1499) dL_law_1496 (by decide) rfl (fun _ => key) (fun h9 => absurd rfl h9)
set_option maxRecDepth 100000 in
set_option maxHeartbeats 4000000 in
theorem lc_heatsAgain {E : xE} {Po : xPo} {w0 w : xW} {x K I k n : Nat} {h : xHi} {d : xCo} {r : mRs} {o : Nat → Int32} {t : mTx} (S : LWS E w x K h d r o t) (hK : K + 15000 < 16000000) (hk : k + 40 ≤ 603072) (hn : n + 4000 ≤ 7227498) (hI : I + 2 < E.2.2.2.1) (hE : E.2.2.2.1 < 100000) (kx : ∀ u h2 d2 r2 o2 t2, LWS E u x (K + 15000) h2 d2 r2 o2 t2 → WF M_L_law E Po w0 2259 (LL E x I) [] u (k + 40) (n + 4000)) : WF M_L_law E Po w0 1504 (LL E x I) [] w k n := by
  obtain ⟨S0, SA, I9⟩ := S
  obtain ⟨k9, v, v2, Qh, Qo, hk9, hv, c1, c2, c3⟩ := pr_heatsAgain (E := E) (x := x) (m := x + 331) (z := E.2.2.2.2 (nI I + 1).toNatClampNeg) (y := E.2.2.2.2 (nI I + 2).toNatClampNeg) I9 w S0.1
  obtain ⟨f0, hA⟩ := id SA.1
  refine r_aload_n (q := 1505) dL_law_1504 rfl rfl rfl ?_
  refine r_aload_n (q := 1506) dL_law_1505 rfl rfl rfl ?_
  refine r_iload (q := 1508) dL_law_1506 rfl rfl ?_
  refine r_iconst (q := 1509) (v := 1) dL_law_1508 rfl rfl ?_
  refine r_iadd (q := 1510) dL_law_1509 rfl ?_
  refine r_sld (q := 1511) dL_law_1510 (vi1 hI hE) rfl ?_
  refine r_aload_n (q := 1512) dL_law_1511 rfl rfl rfl ?_
  refine r_iload (q := 1514) dL_law_1512 rfl rfl ?_
  refine r_iconst (q := 1515) (v := 2) dL_law_1514 rfl rfl ?_
  refine r_iadd (q := 1516) dL_law_1515 rfl ?_
  refine r_sld (q := 1517) dL_law_1516 (vi2 hI hE) rfl ?_
  refine r_aload_n (q := 1518) dL_law_1517 rfl rfl rfl ?_
  refine r_callSH (q := 1521) (As := [_, _, _, _]) dL_law_1518 s_L_law_208 rfl rfl (Nat.le_of_ble_eq_true rfl) rfl rfl rfl (Nat.le_trans (Nat.add_le_add_left (Nat.le_of_ble_eq_true rfl) k) hk) (Nat.le_trans (Nat.add_le_add_left (Nat.le_of_ble_eq_true rfl) n) hn) ⟨Nat.le_trans (Nat.add_le_add_left (Nat.le_of_ble_eq_true rfl) k) hk, Nat.le_trans (Nat.add_le_add_left (Nat.le_of_ble_eq_true rfl) n) hn⟩ rfl ?_
  refine ct_L_heatsAgain S0.1 hA (ls_ax S0.2.2.1 (by omega) (by omega)) (by have := S0.2.2.2; omega) hk9 c1 (fun u h2 q1 q2 q3 q4 => ?_)
  refine tw_join (Pp := xNext M_L_law E Po w0 1521 (LL E x I) [] _ _) S0 SA q2 q3 q4 (fun u2 T => ?_)
  show WF M_L_law E Po w0 1521 (LL E x I) [.int (nI k9)] u2 _ _
  refine WF.wide (k2 := k + 40) (n2 := n + 4000) ?_ (Nat.add_le_add_left (Nat.le_of_ble_eq_true rfl) k) (Nat.add_le_add_left (Nat.le_of_ble_eq_true rfl) n)
  refine r_istore (q := 1523) dL_law_1521 (Nat.le_of_ble_eq_true rfl) (xone_of rfl) rfl ?_
  refine WF.cw (md_of T.1.2.1).symm ?_
  refine r_aload_n (q := 1524) dL_law_1523 rfl rfl rfl ?_
  refine r_aload_n (q := 1525) dL_law_1524 rfl rfl rfl ?_
  refine r_iload (q := 1527) dL_law_1525 rfl rfl ?_
  refine r_iconst (q := 1528) (v := 1) dL_law_1527 rfl rfl ?_
  refine r_iadd (q := 1529) dL_law_1528 rfl ?_
  refine r_sld (q := 1530) dL_law_1529 (vi1 hI hE) rfl ?_
  refine r_aload_n (q := 1531) dL_law_1530 rfl rfl rfl ?_
  refine r_iload (q := 1533) dL_law_1531 rfl rfl ?_
  refine r_iconst (q := 1534) (v := 2) dL_law_1533 rfl rfl ?_
  refine r_iadd (q := 1535) dL_law_1534 rfl ?_
  refine r_sld (q := 1536) dL_law_1535 (vi2 hI hE) rfl ?_
  refine r_callV (q := 1539) (ci := 12) (As := [_, _]) dL_law_1536 s_L_law_210 md_g0 rfl rfl rfl (Nat.le_of_ble_eq_true rfl) rfl rfl rfl hk hn ⟨hk, hn⟩ rfl ?_
  refine c2 _ _ (fun d2 r2 o2 t2 qo => ?_)
  obtain ⟨I2, e2⟩ := c3 h2 d2 r2 o2 t2 q1 qo
  show WF M_L_law E Po w0 1539 _ [.int v2] _ _ _
  refine r_istore (q := 1541) dL_law_1539 (Nat.le_of_ble_eq_true rfl) (xone_of rfl) rfl ?_
  refine r_aload_n (q := 1542) dL_law_1541 rfl rfl rfl ?_
  refine r_callV (q := 1545) (ci := 12) (As := []) dL_law_1542 s_L_law_142 md_g0 rfl rfl rfl (Nat.le_of_ble_eq_true rfl) rfl rfl rfl hk hn ⟨hk, hn⟩ rfl ?_
  refine ct_X10_thrown ?_
  show WF M_L_law E Po w0 1545 _ [.int (o2 2)] _ _ _
  rw [e2]
  refine r_iload (q := 1547) dL_law_1545 rfl rfl ?_
  refine r_icmp_eq (q := 1552) (q2 := 1550) dL_law_1547 (by decide) rfl (fun _ => ?_) (fun h9 => absurd rfl h9)
  refine r_iload (q := 1554) dL_law_1552 rfl rfl ?_
  obtain ⟨TW0, TWA, f, hf, hfv⟩ := T
  have key : WF M_L_law E Po w0 1569 (((LL E x I).set 6 (some (.int (nI k9)))).set 7 (some (.int v2))) [] (md E u2 (x + 331) d2 r2 o2 t2) (k + 40) (n + 4000) := by
    refine r_goto (q := 2259) dL_law_1569 (by decide) ?_
    refine WF.drop 6 (WF.drop 7 ?_)
    exact kx _ h2 d2 r2 o2 t2 ⟨TW0.md, TWA.md, I2⟩
  refine r_if_ne (q := 1569) (q2 := 1557) dL_law_1554 (by decide) rfl (fun _ => key) (fun h9 => ?_)
  have k0 : k9 = 0 := nI_inj (b := 0) (by have : k9 ≤ 1 := hk9; omega) (by decide) h9
  refine r_aload_n (q := 1558) dL_law_1557 rfl rfl rfl ?_
  refine r_iconst (q := 1559) (v := 0) dL_law_1558 rfl rfl ?_
  refine r_laload (q := 1560) dL_law_1559 ((md_out (Or.inr (by omega))).trans hf) (show vp_in 0 1 from vp_in_nI (n := 0) (by decide) (by decide)) rfl ?_
  refine r_iload (q := 1562) dL_law_1560 rfl rfl ?_
  refine r_i2l (q := 1563) dL_law_1562 rfl ?_
  refine r_lcmp (q := 1564) dL_law_1563 rfl ?_
  rw [show lg_cmp (f (0 : Int32).toNatClampNeg) v2.toInt64 = 0 from by rw [show f (0 : Int32).toNatClampNeg = v.toInt64 from hfv k0, hv k0, lcmp_s]]
  exact r_if_eq (q := 1569) (q2 := 1567) dL_law_1564 (by decide) rfl (fun _ => key) (fun h9 => absurd rfl h9)
set_option maxRecDepth 100000 in
set_option maxHeartbeats 4000000 in
theorem lc_bathesIn {E : xE} {Po : xPo} {w0 w : xW} {x K I k n : Nat} {h : xHi} {d : xCo} {r : mRs} {o : Nat → Int32} {t : mTx} (S : LWS E w x K h d r o t) (hK : K + 15000 < 16000000) (hk : k + 40 ≤ 603072) (hn : n + 4000 ≤ 7227498) (hI : I + 2 < E.2.2.2.1) (hE : E.2.2.2.1 < 100000) (kx : ∀ u h2 d2 r2 o2 t2, LWS E u x (K + 15000) h2 d2 r2 o2 t2 → WF M_L_law E Po w0 2259 (LL E x I) [] u (k + 40) (n + 4000)) : WF M_L_law E Po w0 1572 (LL E x I) [] w k n := by
  obtain ⟨S0, SA, I9⟩ := S
  obtain ⟨k9, v, v2, Qh, Qo, hk9, hv, c1, c2, c3⟩ := pr_bathesIn (E := E) (x := x) (m := x + 331) (z := E.2.2.2.2 (nI I + 1).toNatClampNeg) I9 hK w S0.1
  obtain ⟨f0, hA⟩ := id SA.1
  refine r_aload_n (q := 1573) dL_law_1572 rfl rfl rfl ?_
  refine r_aload_n (q := 1574) dL_law_1573 rfl rfl rfl ?_
  refine r_iload (q := 1576) dL_law_1574 rfl rfl ?_
  refine r_iconst (q := 1577) (v := 1) dL_law_1576 rfl rfl ?_
  refine r_iadd (q := 1578) dL_law_1577 rfl ?_
  refine r_sld (q := 1579) dL_law_1578 (vi1 hI hE) rfl ?_
  refine r_aload_n (q := 1580) dL_law_1579 rfl rfl rfl ?_
  refine r_callSH (q := 1583) (As := [_, _, _]) dL_law_1580 s_L_law_211 rfl rfl (Nat.le_of_ble_eq_true rfl) rfl rfl rfl (Nat.le_trans (Nat.add_le_add_left (Nat.le_of_ble_eq_true rfl) k) hk) (Nat.le_trans (Nat.add_le_add_left (Nat.le_of_ble_eq_true rfl) n) hn) ⟨Nat.le_trans (Nat.add_le_add_left (Nat.le_of_ble_eq_true rfl) k) hk, Nat.le_trans (Nat.add_le_add_left (Nat.le_of_ble_eq_true rfl) n) hn⟩ rfl ?_
  refine ct_L_bathesIn S0.1 hA (ls_ax S0.2.2.1 (by omega) (by omega)) (by have := S0.2.2.2; omega) hk9 c1 (fun u h2 q1 q2 q3 q4 => ?_)
  refine tw_join (Pp := xNext M_L_law E Po w0 1583 (LL E x I) [] _ _) S0 SA q2 q3 q4 (fun u2 T => ?_)
  show WF M_L_law E Po w0 1583 (LL E x I) [.int (nI k9)] u2 _ _
  refine WF.wide (k2 := k + 40) (n2 := n + 4000) ?_ (Nat.add_le_add_left (Nat.le_of_ble_eq_true rfl) k) (Nat.add_le_add_left (Nat.le_of_ble_eq_true rfl) n)
  refine r_istore (q := 1585) dL_law_1583 (Nat.le_of_ble_eq_true rfl) (xone_of rfl) rfl ?_
  refine WF.cw (md_of T.1.2.1).symm ?_
  refine r_aload_n (q := 1586) dL_law_1585 rfl rfl rfl ?_
  refine r_aload_n (q := 1587) dL_law_1586 rfl rfl rfl ?_
  refine r_iload (q := 1589) dL_law_1587 rfl rfl ?_
  refine r_iconst (q := 1590) (v := 1) dL_law_1589 rfl rfl ?_
  refine r_iadd (q := 1591) dL_law_1590 rfl ?_
  refine r_sld (q := 1592) dL_law_1591 (vi1 hI hE) rfl ?_
  refine r_callV (q := 1595) (ci := 12) (As := [_]) dL_law_1592 s_L_law_213 md_g0 rfl rfl rfl (Nat.le_of_ble_eq_true rfl) rfl rfl rfl hk hn ⟨hk, hn⟩ rfl ?_
  refine c2 _ _ (fun d2 r2 o2 t2 qo => ?_)
  obtain ⟨I2, e2⟩ := c3 h2 d2 r2 o2 t2 q1 qo
  show WF M_L_law E Po w0 1595 _ [.int v2] _ _ _
  refine r_istore (q := 1597) dL_law_1595 (Nat.le_of_ble_eq_true rfl) (xone_of rfl) rfl ?_
  refine r_aload_n (q := 1598) dL_law_1597 rfl rfl rfl ?_
  refine r_callV (q := 1601) (ci := 12) (As := []) dL_law_1598 s_L_law_142 md_g0 rfl rfl rfl (Nat.le_of_ble_eq_true rfl) rfl rfl rfl hk hn ⟨hk, hn⟩ rfl ?_
  refine ct_X10_thrown ?_
  show WF M_L_law E Po w0 1601 _ [.int (o2 2)] _ _ _
  rw [e2]
  refine r_iload (q := 1603) dL_law_1601 rfl rfl ?_
  refine r_icmp_eq (q := 1608) (q2 := 1606) dL_law_1603 (by decide) rfl (fun _ => ?_) (fun h9 => absurd rfl h9)
  refine r_iload (q := 1610) dL_law_1608 rfl rfl ?_
  obtain ⟨TW0, TWA, f, hf, hfv⟩ := T
  have key : WF M_L_law E Po w0 1625 (((LL E x I).set 6 (some (.int (nI k9)))).set 7 (some (.int v2))) [] (md E u2 (x + 331) d2 r2 o2 t2) (k + 40) (n + 4000) := by
    refine r_goto (q := 2259) dL_law_1625 (by decide) ?_
    refine WF.drop 6 (WF.drop 7 ?_)
    exact kx _ h2 d2 r2 o2 t2 ⟨TW0.md, TWA.md, I2⟩
  refine r_if_ne (q := 1625) (q2 := 1613) dL_law_1610 (by decide) rfl (fun _ => key) (fun h9 => ?_)
  have k0 : k9 = 0 := nI_inj (b := 0) (by have : k9 ≤ 1 := hk9; omega) (by decide) h9
  refine r_aload_n (q := 1614) dL_law_1613 rfl rfl rfl ?_
  refine r_iconst (q := 1615) (v := 0) dL_law_1614 rfl rfl ?_
  refine r_laload (q := 1616) dL_law_1615 ((md_out (Or.inr (by omega))).trans hf) (show vp_in 0 1 from vp_in_nI (n := 0) (by decide) (by decide)) rfl ?_
  refine r_iload (q := 1618) dL_law_1616 rfl rfl ?_
  refine r_i2l (q := 1619) dL_law_1618 rfl ?_
  refine r_lcmp (q := 1620) dL_law_1619 rfl ?_
  rw [show lg_cmp (f (0 : Int32).toNatClampNeg) v2.toInt64 = 0 from by rw [show f (0 : Int32).toNatClampNeg = v.toInt64 from hfv k0, hv k0, lcmp_s]]
  exact r_if_eq (q := 1625) (q2 := 1623) dL_law_1620 (by decide) rfl (fun _ => key) (fun h9 => absurd rfl h9)
set_option maxRecDepth 100000 in
set_option maxHeartbeats 4000000 in
theorem lc_line {E : xE} {Po : xPo} {w0 w : xW} {x K I k n : Nat} {h : xHi} {d : xCo} {r : mRs} {o : Nat → Int32} {t : mTx} (S : LWS E w x K h d r o t) (hK : K + 15000 < 16000000) (hk : k + 40 ≤ 603072) (hn : n + 4000 ≤ 7227498) (hI : I + 2 < E.2.2.2.1) (hE : E.2.2.2.1 < 100000) (kx : ∀ u h2 d2 r2 o2 t2, LWS E u x (K + 15000) h2 d2 r2 o2 t2 → WF M_L_law E Po w0 2259 (LL E x I) [] u (k + 40) (n + 4000)) : WF M_L_law E Po w0 1628 (LL E x I) [] w k n := by
  obtain ⟨S0, SA, I9⟩ := S
  obtain ⟨k9, v, v2, Qh, Qo, hk9, hv, c1, c2, c3⟩ := pr_line (E := E) (x := x) (m := x + 331) (z := E.2.2.2.2 (nI I + 1).toNatClampNeg) I9 w S0.1
  obtain ⟨f0, hA⟩ := id SA.1
  refine r_aload_n (q := 1629) dL_law_1628 rfl rfl rfl ?_
  refine r_aload_n (q := 1630) dL_law_1629 rfl rfl rfl ?_
  refine r_iload (q := 1632) dL_law_1630 rfl rfl ?_
  refine r_iconst (q := 1633) (v := 1) dL_law_1632 rfl rfl ?_
  refine r_iadd (q := 1634) dL_law_1633 rfl ?_
  refine r_sld (q := 1635) dL_law_1634 (vi1 hI hE) rfl ?_
  refine r_aload_n (q := 1636) dL_law_1635 rfl rfl rfl ?_
  refine r_callSH (q := 1639) (As := [_, _, _]) dL_law_1636 s_L_law_214 rfl rfl (Nat.le_of_ble_eq_true rfl) rfl rfl rfl (Nat.le_trans (Nat.add_le_add_left (Nat.le_of_ble_eq_true rfl) k) hk) (Nat.le_trans (Nat.add_le_add_left (Nat.le_of_ble_eq_true rfl) n) hn) ⟨Nat.le_trans (Nat.add_le_add_left (Nat.le_of_ble_eq_true rfl) k) hk, Nat.le_trans (Nat.add_le_add_left (Nat.le_of_ble_eq_true rfl) n) hn⟩ rfl ?_
  refine ct_L_line S0.1 hA (ls_ax S0.2.2.1 (by omega) (by omega)) (by have := S0.2.2.2; omega) hk9 c1 (fun u h2 q1 q2 q3 q4 => ?_)
  refine tw_join (Pp := xNext M_L_law E Po w0 1639 (LL E x I) [] _ _) S0 SA q2 q3 q4 (fun u2 T => ?_)
  show WF M_L_law E Po w0 1639 (LL E x I) [.int (nI k9)] u2 _ _
  refine WF.wide (k2 := k + 40) (n2 := n + 4000) ?_ (Nat.add_le_add_left (Nat.le_of_ble_eq_true rfl) k) (Nat.add_le_add_left (Nat.le_of_ble_eq_true rfl) n)
  refine r_istore (q := 1641) dL_law_1639 (Nat.le_of_ble_eq_true rfl) (xone_of rfl) rfl ?_
  refine WF.cw (md_of T.1.2.1).symm ?_
  refine r_aload_n (q := 1642) dL_law_1641 rfl rfl rfl ?_
  refine r_aload_n (q := 1643) dL_law_1642 rfl rfl rfl ?_
  refine r_iload (q := 1645) dL_law_1643 rfl rfl ?_
  refine r_iconst (q := 1646) (v := 1) dL_law_1645 rfl rfl ?_
  refine r_iadd (q := 1647) dL_law_1646 rfl ?_
  refine r_sld (q := 1648) dL_law_1647 (vi1 hI hE) rfl ?_
  refine r_callV (q := 1651) (ci := 12) (As := [_]) dL_law_1648 s_L_law_216 md_g0 rfl rfl rfl (Nat.le_of_ble_eq_true rfl) rfl rfl rfl hk hn ⟨hk, hn⟩ rfl ?_
  refine c2 _ _ (fun d2 r2 o2 t2 qo => ?_)
  obtain ⟨I2, e2⟩ := c3 h2 d2 r2 o2 t2 q1 qo
  show WF M_L_law E Po w0 1651 _ [.int v2] _ _ _
  refine r_istore (q := 1653) dL_law_1651 (Nat.le_of_ble_eq_true rfl) (xone_of rfl) rfl ?_
  refine r_aload_n (q := 1654) dL_law_1653 rfl rfl rfl ?_
  refine r_callV (q := 1657) (ci := 12) (As := []) dL_law_1654 s_L_law_142 md_g0 rfl rfl rfl (Nat.le_of_ble_eq_true rfl) rfl rfl rfl hk hn ⟨hk, hn⟩ rfl ?_
  refine ct_X10_thrown ?_
  show WF M_L_law E Po w0 1657 _ [.int (o2 2)] _ _ _
  rw [e2]
  refine r_iload (q := 1659) dL_law_1657 rfl rfl ?_
  refine r_icmp_eq (q := 1664) (q2 := 1662) dL_law_1659 (by decide) rfl (fun _ => ?_) (fun h9 => absurd rfl h9)
  refine r_iload (q := 1666) dL_law_1664 rfl rfl ?_
  obtain ⟨TW0, TWA, f, hf, hfv⟩ := T
  have key : WF M_L_law E Po w0 1681 (((LL E x I).set 6 (some (.int (nI k9)))).set 7 (some (.int v2))) [] (md E u2 (x + 331) d2 r2 o2 t2) (k + 40) (n + 4000) := by
    refine r_goto (q := 2259) dL_law_1681 (by decide) ?_
    refine WF.drop 6 (WF.drop 7 ?_)
    exact kx _ h2 d2 r2 o2 t2 ⟨TW0.md, TWA.md, I2⟩
  refine r_if_ne (q := 1681) (q2 := 1669) dL_law_1666 (by decide) rfl (fun _ => key) (fun h9 => ?_)
  have k0 : k9 = 0 := nI_inj (b := 0) (by have : k9 ≤ 1 := hk9; omega) (by decide) h9
  refine r_aload_n (q := 1670) dL_law_1669 rfl rfl rfl ?_
  refine r_iconst (q := 1671) (v := 0) dL_law_1670 rfl rfl ?_
  refine r_laload (q := 1672) dL_law_1671 ((md_out (Or.inr (by omega))).trans hf) (show vp_in 0 1 from vp_in_nI (n := 0) (by decide) (by decide)) rfl ?_
  refine r_iload (q := 1674) dL_law_1672 rfl rfl ?_
  refine r_i2l (q := 1675) dL_law_1674 rfl ?_
  refine r_lcmp (q := 1676) dL_law_1675 rfl ?_
  rw [show lg_cmp (f (0 : Int32).toNatClampNeg) v2.toInt64 = 0 from by rw [show f (0 : Int32).toNatClampNeg = v.toInt64 from hfv k0, hv k0, lcmp_s]]
  exact r_if_eq (q := 1681) (q2 := 1679) dL_law_1676 (by decide) rfl (fun _ => key) (fun h9 => absurd rfl h9)
set_option maxRecDepth 100000 in
set_option maxHeartbeats 4000000 in
theorem lc_character {E : xE} {Po : xPo} {w0 w : xW} {x K I k n : Nat} {h : xHi} {d : xCo} {r : mRs} {o : Nat → Int32} {t : mTx} (S : LWS E w x K h d r o t) (hK : K + 15000 < 16000000) (hk : k + 40 ≤ 603072) (hn : n + 4000 ≤ 7227498) (hI : I + 2 < E.2.2.2.1) (hE : E.2.2.2.1 < 100000) (kx : ∀ u h2 d2 r2 o2 t2, LWS E u x (K + 15000) h2 d2 r2 o2 t2 → WF M_L_law E Po w0 2259 (LL E x I) [] u (k + 40) (n + 4000)) : WF M_L_law E Po w0 1684 (LL E x I) [] w k n := by
  obtain ⟨S0, SA, I9⟩ := S
  obtain ⟨k9, v, v2, Qh, Qo, hk9, hv, c1, c2, c3⟩ := pr_character (E := E) (x := x) (m := x + 331) (z := E.2.2.2.2 (nI I + 1).toNatClampNeg) I9 w S0.1
  obtain ⟨f0, hA⟩ := id SA.1
  refine r_aload_n (q := 1685) dL_law_1684 rfl rfl rfl ?_
  refine r_aload_n (q := 1686) dL_law_1685 rfl rfl rfl ?_
  refine r_iload (q := 1688) dL_law_1686 rfl rfl ?_
  refine r_iconst (q := 1689) (v := 1) dL_law_1688 rfl rfl ?_
  refine r_iadd (q := 1690) dL_law_1689 rfl ?_
  refine r_sld (q := 1691) dL_law_1690 (vi1 hI hE) rfl ?_
  refine r_aload_n (q := 1692) dL_law_1691 rfl rfl rfl ?_
  refine r_callSH (q := 1695) (As := [_, _, _]) dL_law_1692 s_L_law_217 rfl rfl (Nat.le_of_ble_eq_true rfl) rfl rfl rfl (Nat.le_trans (Nat.add_le_add_left (Nat.le_of_ble_eq_true rfl) k) hk) (Nat.le_trans (Nat.add_le_add_left (Nat.le_of_ble_eq_true rfl) n) hn) ⟨Nat.le_trans (Nat.add_le_add_left (Nat.le_of_ble_eq_true rfl) k) hk, Nat.le_trans (Nat.add_le_add_left (Nat.le_of_ble_eq_true rfl) n) hn⟩ rfl ?_
  refine ct_L_character S0.1 hA (ls_ax S0.2.2.1 (by omega) (by omega)) (by have := S0.2.2.2; omega) hk9 c1 (fun u h2 q1 q2 q3 q4 => ?_)
  refine tw_join (Pp := xNext M_L_law E Po w0 1695 (LL E x I) [] _ _) S0 SA q2 q3 q4 (fun u2 T => ?_)
  show WF M_L_law E Po w0 1695 (LL E x I) [.int (nI k9)] u2 _ _
  refine WF.wide (k2 := k + 40) (n2 := n + 4000) ?_ (Nat.add_le_add_left (Nat.le_of_ble_eq_true rfl) k) (Nat.add_le_add_left (Nat.le_of_ble_eq_true rfl) n)
  refine r_istore (q := 1697) dL_law_1695 (Nat.le_of_ble_eq_true rfl) (xone_of rfl) rfl ?_
  refine WF.cw (md_of T.1.2.1).symm ?_
  refine r_aload_n (q := 1698) dL_law_1697 rfl rfl rfl ?_
  refine r_aload_n (q := 1699) dL_law_1698 rfl rfl rfl ?_
  refine r_iload (q := 1701) dL_law_1699 rfl rfl ?_
  refine r_iconst (q := 1702) (v := 1) dL_law_1701 rfl rfl ?_
  refine r_iadd (q := 1703) dL_law_1702 rfl ?_
  refine r_sld (q := 1704) dL_law_1703 (vi1 hI hE) rfl ?_
  refine r_callV (q := 1707) (ci := 12) (As := [_]) dL_law_1704 s_L_law_219 md_g0 rfl rfl rfl (Nat.le_of_ble_eq_true rfl) rfl rfl rfl hk hn ⟨hk, hn⟩ rfl ?_
  refine c2 _ _ (fun d2 r2 o2 t2 qo => ?_)
  obtain ⟨I2, e2⟩ := c3 h2 d2 r2 o2 t2 q1 qo
  show WF M_L_law E Po w0 1707 _ [.int v2] _ _ _
  refine r_istore (q := 1709) dL_law_1707 (Nat.le_of_ble_eq_true rfl) (xone_of rfl) rfl ?_
  refine r_aload_n (q := 1710) dL_law_1709 rfl rfl rfl ?_
  refine r_callV (q := 1713) (ci := 12) (As := []) dL_law_1710 s_L_law_142 md_g0 rfl rfl rfl (Nat.le_of_ble_eq_true rfl) rfl rfl rfl hk hn ⟨hk, hn⟩ rfl ?_
  refine ct_X10_thrown ?_
  show WF M_L_law E Po w0 1713 _ [.int (o2 2)] _ _ _
  rw [e2]
  refine r_iload (q := 1715) dL_law_1713 rfl rfl ?_
  refine r_icmp_eq (q := 1720) (q2 := 1718) dL_law_1715 (by decide) rfl (fun _ => ?_) (fun h9 => absurd rfl h9)
  refine r_iload (q := 1722) dL_law_1720 rfl rfl ?_
  obtain ⟨TW0, TWA, f, hf, hfv⟩ := T
  have key : WF M_L_law E Po w0 1737 (((LL E x I).set 6 (some (.int (nI k9)))).set 7 (some (.int v2))) [] (md E u2 (x + 331) d2 r2 o2 t2) (k + 40) (n + 4000) := by
    refine r_goto (q := 2259) dL_law_1737 (by decide) ?_
    refine WF.drop 6 (WF.drop 7 ?_)
    exact kx _ h2 d2 r2 o2 t2 ⟨TW0.md, TWA.md, I2⟩
  refine r_if_ne (q := 1737) (q2 := 1725) dL_law_1722 (by decide) rfl (fun _ => key) (fun h9 => ?_)
  have k0 : k9 = 0 := nI_inj (b := 0) (by have : k9 ≤ 1 := hk9; omega) (by decide) h9
  refine r_aload_n (q := 1726) dL_law_1725 rfl rfl rfl ?_
  refine r_iconst (q := 1727) (v := 0) dL_law_1726 rfl rfl ?_
  refine r_laload (q := 1728) dL_law_1727 ((md_out (Or.inr (by omega))).trans hf) (show vp_in 0 1 from vp_in_nI (n := 0) (by decide) (by decide)) rfl ?_
  refine r_iload (q := 1730) dL_law_1728 rfl rfl ?_
  refine r_i2l (q := 1731) dL_law_1730 rfl ?_
  refine r_lcmp (q := 1732) dL_law_1731 rfl ?_
  rw [show lg_cmp (f (0 : Int32).toNatClampNeg) v2.toInt64 = 0 from by rw [show f (0 : Int32).toNatClampNeg = v.toInt64 from hfv k0, hv k0, lcmp_s]]
  exact r_if_eq (q := 1737) (q2 := 1735) dL_law_1732 (by decide) rfl (fun _ => key) (fun h9 => absurd rfl h9)
set_option maxRecDepth 100000 in
set_option maxHeartbeats 4000000 in
theorem lc_number {E : xE} {Po : xPo} {w0 w : xW} {x K I k n : Nat} {h : xHi} {d : xCo} {r : mRs} {o : Nat → Int32} {t : mTx} (S : LWS E w x K h d r o t) (hK : K + 15000 < 16000000) (hk : k + 40 ≤ 603072) (hn : n + 4000 ≤ 7227498) (hI : I + 2 < E.2.2.2.1) (hE : E.2.2.2.1 < 100000) (kx : ∀ u h2 d2 r2 o2 t2, LWS E u x (K + 15000) h2 d2 r2 o2 t2 → WF M_L_law E Po w0 2259 (LL E x I) [] u (k + 40) (n + 4000)) : WF M_L_law E Po w0 1740 (LL E x I) [] w k n := by
  obtain ⟨S0, SA, I9⟩ := S
  obtain ⟨k9, v, v2, Qh, Qo, hk9, hv, c1, c2, c3⟩ := pr_number (E := E) (x := x) (m := x + 331) (y := E.2.2.2.2 (nI I + 1).toNatClampNeg) I9 w S0.1
  obtain ⟨f0, hA⟩ := id SA.1
  refine r_aload_n (q := 1741) dL_law_1740 rfl rfl rfl ?_
  refine r_aload_n (q := 1742) dL_law_1741 rfl rfl rfl ?_
  refine r_iload (q := 1744) dL_law_1742 rfl rfl ?_
  refine r_iconst (q := 1745) (v := 1) dL_law_1744 rfl rfl ?_
  refine r_iadd (q := 1746) dL_law_1745 rfl ?_
  refine r_sld (q := 1747) dL_law_1746 (vi1 hI hE) rfl ?_
  refine r_aload_n (q := 1748) dL_law_1747 rfl rfl rfl ?_
  refine r_callSH (q := 1751) (As := [_, _, _]) dL_law_1748 s_L_law_220 rfl rfl (Nat.le_of_ble_eq_true rfl) rfl rfl rfl (Nat.le_trans (Nat.add_le_add_left (Nat.le_of_ble_eq_true rfl) k) hk) (Nat.le_trans (Nat.add_le_add_left (Nat.le_of_ble_eq_true rfl) n) hn) ⟨Nat.le_trans (Nat.add_le_add_left (Nat.le_of_ble_eq_true rfl) k) hk, Nat.le_trans (Nat.add_le_add_left (Nat.le_of_ble_eq_true rfl) n) hn⟩ rfl ?_
  refine ct_L_number S0.1 hA (ls_ax S0.2.2.1 (by omega) (by omega)) (by have := S0.2.2.2; omega) hk9 c1 (fun u h2 q1 q2 q3 q4 => ?_)
  refine tw_join (Pp := xNext M_L_law E Po w0 1751 (LL E x I) [] _ _) S0 SA q2 q3 q4 (fun u2 T => ?_)
  show WF M_L_law E Po w0 1751 (LL E x I) [.int (nI k9)] u2 _ _
  refine WF.wide (k2 := k + 40) (n2 := n + 4000) ?_ (Nat.add_le_add_left (Nat.le_of_ble_eq_true rfl) k) (Nat.add_le_add_left (Nat.le_of_ble_eq_true rfl) n)
  refine r_istore (q := 1753) dL_law_1751 (Nat.le_of_ble_eq_true rfl) (xone_of rfl) rfl ?_
  refine WF.cw (md_of T.1.2.1).symm ?_
  refine r_aload_n (q := 1754) dL_law_1753 rfl rfl rfl ?_
  refine r_aload_n (q := 1755) dL_law_1754 rfl rfl rfl ?_
  refine r_iload (q := 1757) dL_law_1755 rfl rfl ?_
  refine r_iconst (q := 1758) (v := 1) dL_law_1757 rfl rfl ?_
  refine r_iadd (q := 1759) dL_law_1758 rfl ?_
  refine r_sld (q := 1760) dL_law_1759 (vi1 hI hE) rfl ?_
  refine r_callV (q := 1763) (ci := 12) (As := [_]) dL_law_1760 s_L_law_222 md_g0 rfl rfl rfl (Nat.le_of_ble_eq_true rfl) rfl rfl rfl hk hn ⟨hk, hn⟩ rfl ?_
  refine c2 _ _ (fun d2 r2 o2 t2 qo => ?_)
  obtain ⟨I2, e2⟩ := c3 h2 d2 r2 o2 t2 q1 qo
  show WF M_L_law E Po w0 1763 _ [.int v2] _ _ _
  refine r_istore (q := 1765) dL_law_1763 (Nat.le_of_ble_eq_true rfl) (xone_of rfl) rfl ?_
  refine r_aload_n (q := 1766) dL_law_1765 rfl rfl rfl ?_
  refine r_callV (q := 1769) (ci := 12) (As := []) dL_law_1766 s_L_law_142 md_g0 rfl rfl rfl (Nat.le_of_ble_eq_true rfl) rfl rfl rfl hk hn ⟨hk, hn⟩ rfl ?_
  refine ct_X10_thrown ?_
  show WF M_L_law E Po w0 1769 _ [.int (o2 2)] _ _ _
  rw [e2]
  refine r_iload (q := 1771) dL_law_1769 rfl rfl ?_
  refine r_icmp_eq (q := 1776) (q2 := 1774) dL_law_1771 (by decide) rfl (fun _ => ?_) (fun h9 => absurd rfl h9)
  refine r_iload (q := 1778) dL_law_1776 rfl rfl ?_
  obtain ⟨TW0, TWA, f, hf, hfv⟩ := T
  have key : WF M_L_law E Po w0 1793 (((LL E x I).set 6 (some (.int (nI k9)))).set 7 (some (.int v2))) [] (md E u2 (x + 331) d2 r2 o2 t2) (k + 40) (n + 4000) := by
    refine r_goto (q := 2259) dL_law_1793 (by decide) ?_
    refine WF.drop 6 (WF.drop 7 ?_)
    exact kx _ h2 d2 r2 o2 t2 ⟨TW0.md, TWA.md, I2⟩
  refine r_if_ne (q := 1793) (q2 := 1781) dL_law_1778 (by decide) rfl (fun _ => key) (fun h9 => ?_)
  have k0 : k9 = 0 := nI_inj (b := 0) (by have : k9 ≤ 1 := hk9; omega) (by decide) h9
  refine r_aload_n (q := 1782) dL_law_1781 rfl rfl rfl ?_
  refine r_iconst (q := 1783) (v := 0) dL_law_1782 rfl rfl ?_
  refine r_laload (q := 1784) dL_law_1783 ((md_out (Or.inr (by omega))).trans hf) (show vp_in 0 1 from vp_in_nI (n := 0) (by decide) (by decide)) rfl ?_
  refine r_iload (q := 1786) dL_law_1784 rfl rfl ?_
  refine r_i2l (q := 1787) dL_law_1786 rfl ?_
  refine r_lcmp (q := 1788) dL_law_1787 rfl ?_
  rw [show lg_cmp (f (0 : Int32).toNatClampNeg) v2.toInt64 = 0 from by rw [show f (0 : Int32).toNatClampNeg = v.toInt64 from hfv k0, hv k0, lcmp_s]]
  exact r_if_eq (q := 1793) (q2 := 1791) dL_law_1788 (by decide) rfl (fun _ => key) (fun h9 => absurd rfl h9)
set_option maxRecDepth 100000 in
set_option maxHeartbeats 4000000 in
theorem lc_towels {E : xE} {Po : xPo} {w0 w : xW} {x K I k n : Nat} {h : xHi} {d : xCo} {r : mRs} {o : Nat → Int32} {t : mTx} (S : LWS E w x K h d r o t) (hK : K + 15000 < 16000000) (hk : k + 40 ≤ 603072) (hn : n + 4000 ≤ 7227498) (hI : I + 2 < E.2.2.2.1) (hE : E.2.2.2.1 < 100000) (kx : ∀ u h2 d2 r2 o2 t2, LWS E u x (K + 15000) h2 d2 r2 o2 t2 → WF M_L_law E Po w0 2259 (LL E x I) [] u (k + 40) (n + 4000)) : WF M_L_law E Po w0 1796 (LL E x I) [] w k n := by
  obtain ⟨S0, SA, I9⟩ := S
  obtain ⟨k9, v, v2, Qh, Qo, hk9, hv, c1, c2, c3⟩ := pr_towels (E := E) (x := x) (m := x + 331) I9 w S0.1
  have k0 : k9 = 0 := Nat.le_zero.mp hk9
  subst k0
  refine r_aload_n (q := 1797) dL_law_1796 rfl rfl rfl ?_
  refine r_callV (q := 1800) (ci := 11) (As := []) dL_law_1797 s_L_law_223 S0.1.1.1 rfl rfl rfl (Nat.le_of_ble_eq_true rfl) rfl rfl rfl (Nat.le_trans (Nat.add_le_add_left (Nat.le_of_ble_eq_true rfl) k) hk) (Nat.le_trans (Nat.add_le_add_left (Nat.le_of_ble_eq_true rfl) n) hn) ⟨Nat.le_trans (Nat.add_le_add_left (Nat.le_of_ble_eq_true rfl) k) hk, Nat.le_trans (Nat.add_le_add_left (Nat.le_of_ble_eq_true rfl) n) hn⟩ rfl ?_
  refine c1 _ (fun u h2 q1 q2 q3 q4 => ?_)
  show WF M_L_law E Po w0 1800 (LL E x I) [.int v] u _ _
  refine WF.wide (k2 := k + 40) (n2 := n + 4000) ?_ (Nat.add_le_add_left (Nat.le_of_ble_eq_true rfl) k) (Nat.add_le_add_left (Nat.le_of_ble_eq_true rfl) n)
  obtain ⟨TW0, TWA⟩ := S0.call SA q2 q3 q4
  refine WF.cw (md_of TW0.2.1).symm ?_
  refine r_aload_n (q := 1801) dL_law_1800 rfl rfl rfl ?_
  refine r_callV (q := 1804) (ci := 12) (As := []) dL_law_1801 s_L_law_226 md_g0 rfl rfl rfl (Nat.le_of_ble_eq_true rfl) rfl rfl rfl hk hn ⟨hk, hn⟩ rfl ?_
  refine c2 _ _ (fun d2 r2 o2 t2 qo => ?_)
  obtain ⟨I2, e2⟩ := c3 h2 d2 r2 o2 t2 q1 qo
  show WF M_L_law E Po w0 1804 _ [.int v2, .int v] _ _ _
  exact r_icmp_eq (q := 2259) (q2 := 1807) dL_law_1804 (by decide) rfl (fun _ => kx _ h2 d2 r2 o2 t2 ⟨TW0.md, TWA.md, I2⟩) (fun h9 => absurd (hv rfl).symm h9)
set_option maxRecDepth 100000 in
set_option maxHeartbeats 4000000 in
theorem lc_meanWarmth {E : xE} {Po : xPo} {w0 w : xW} {x K I k n : Nat} {h : xHi} {d : xCo} {r : mRs} {o : Nat → Int32} {t : mTx} (S : LWS E w x K h d r o t) (hK : K + 15000 < 16000000) (hk : k + 40 ≤ 603072) (hn : n + 4000 ≤ 7227498) (hI : I + 2 < E.2.2.2.1) (hE : E.2.2.2.1 < 100000) (kx : ∀ u h2 d2 r2 o2 t2, LWS E u x (K + 15000) h2 d2 r2 o2 t2 → WF M_L_law E Po w0 2259 (LL E x I) [] u (k + 40) (n + 4000)) : WF M_L_law E Po w0 1809 (LL E x I) [] w k n := by
  obtain ⟨S0, SA, I9⟩ := S
  obtain ⟨k9, v, v2, hk9, hv, c1, c2⟩ := pr_meanWarmth (E := E) (x := x) (m := x + 331) I9
  obtain ⟨f0, hA⟩ := id SA.2
  refine r_aload_n (q := 1810) dL_law_1809 rfl rfl rfl ?_
  refine r_aload (q := 1812) dL_law_1810 rfl rfl ?_
  refine r_callSH (q := 1815) (As := [_, _]) dL_law_1812 s_L_law_227 rfl rfl (Nat.le_of_ble_eq_true rfl) rfl rfl rfl (Nat.le_trans (Nat.add_le_add_left (Nat.le_of_ble_eq_true rfl) k) hk) (Nat.le_trans (Nat.add_le_add_left (Nat.le_of_ble_eq_true rfl) n) hn) ⟨Nat.le_trans (Nat.add_le_add_left (Nat.le_of_ble_eq_true rfl) k) hk, Nat.le_trans (Nat.add_le_add_left (Nat.le_of_ble_eq_true rfl) n) hn⟩ rfl ?_
  refine ct_L_meanWarmth (Qh := fun h2 => h2 = h) S0.1 hA (ls_ax S0.2.2.1 (by omega) (by omega)) (by have := S0.2.2.2; omega) hk9 (c1 w S0.1) (fun u h2 q1 q2 q3 q4 => ?_)
  refine td_join (v := v) (Pp := xNext M_L_law E Po w0 1815 (LL E x I) [] _ _) S0 SA q2 q3 q4 (fun u2 T => ?_)
  show WF M_L_law E Po w0 1815 (LL E x I) [.int (nI k9)] u2 _ _
  refine WF.wide (k2 := k + 40) (n2 := n + 4000) ?_ (Nat.add_le_add_left (Nat.le_of_ble_eq_true rfl) k) (Nat.add_le_add_left (Nat.le_of_ble_eq_true rfl) n)
  refine r_istore (q := 1817) dL_law_1815 (Nat.le_of_ble_eq_true rfl) (xone_of rfl) rfl ?_
  refine WF.cw (md_of T.1.2.1).symm ?_
  refine r_aload_n (q := 1818) dL_law_1817 rfl rfl rfl ?_
  refine r_callV (q := 1821) (ci := 12) (As := []) dL_law_1818 s_L_law_230 md_g0 rfl rfl rfl (Nat.le_of_ble_eq_true rfl) rfl rfl rfl hk hn ⟨hk, hn⟩ rfl ?_
  refine c2 _ _ ?_
  show WF M_L_law E Po w0 1821 _ [.double v2] _ _ _
  refine r_dstore (q := 1823) dL_law_1821 (Nat.le_of_ble_eq_true rfl) (xone_of rfl) rfl rfl ?_
  refine r_aload_n (q := 1824) dL_law_1823 rfl rfl rfl ?_
  refine r_callV (q := 1827) (ci := 12) (As := []) dL_law_1824 s_L_law_142 md_g0 rfl rfl rfl (Nat.le_of_ble_eq_true rfl) rfl rfl rfl hk hn ⟨hk, hn⟩ rfl ?_
  refine ct_X10_thrown ?_
  show WF M_L_law E Po w0 1827 _ [.int (nI k9)] _ _ _
  refine r_iload (q := 1829) dL_law_1827 rfl rfl ?_
  refine r_icmp_eq (q := 1834) (q2 := 1832) dL_law_1829 (by decide) rfl (fun _ => ?_) (fun h9 => absurd rfl h9)
  refine r_iload (q := 1836) dL_law_1834 rfl rfl ?_
  obtain ⟨TW0, TWA, f, hf, hfv⟩ := T
  subst q1
  have key : WF M_L_law E Po w0 1871 (((LL E x I).set 6 (some (.int (nI k9)))).set 7 (some (.double v2))) [] (md E u2 (x + 331) d r (upd o 2 (nI k9)) t) (k + 40) (n + 4000) := by
    refine r_goto (q := 2259) dL_law_1871 (by decide) ?_
    refine WF.drop 6 (WF.drop 7 ?_)
    exact kx _ h2 d r _ t ⟨TW0.md, TWA.md, (I9.oo o_2).mono (by omega)⟩
  refine r_if_ne (q := 1871) (q2 := 1839) dL_law_1836 (by decide) rfl (fun _ => key) (fun h9 => ?_)
  have k0 : k9 = 0 := nI_inj (b := 0) (by omega) (by decide) h9
  have ev : v2 = v := (hv k0).1
  subst ev
  refine r_aload (q := 1841) dL_law_1839 rfl rfl ?_
  refine r_iconst (q := 1842) (v := 0) dL_law_1841 rfl rfl ?_
  refine r_daload (q := 1843) dL_law_1842 ((md_out (Or.inr (by omega))).trans hf) (show vp_in 0 1 from vp_in_nI (n := 0) (by decide) (by decide)) rfl ?_
  refine r_dload (q := 1845) dL_law_1843 rfl rfl ?_
  refine r_dcmp (q := 1846) dL_law_1845 rfl ?_
  rw [show f (0 : Int32).toNatClampNeg = v2 from hfv k0, dcmp_s (hv k0).2]
  exact r_if_eq (q := 1871) (q2 := 1849) dL_law_1846 (by decide) rfl (fun _ => key) (fun h9 => absurd rfl h9)
set_option maxRecDepth 100000 in
set_option maxHeartbeats 4000000 in
theorem lc_bathedShare {E : xE} {Po : xPo} {w0 w : xW} {x K I k n : Nat} {h : xHi} {d : xCo} {r : mRs} {o : Nat → Int32} {t : mTx} (S : LWS E w x K h d r o t) (hK : K + 15000 < 16000000) (hk : k + 40 ≤ 603072) (hn : n + 4000 ≤ 7227498) (hI : I + 2 < E.2.2.2.1) (hE : E.2.2.2.1 < 100000) (kx : ∀ u h2 d2 r2 o2 t2, LWS E u x (K + 15000) h2 d2 r2 o2 t2 → WF M_L_law E Po w0 2259 (LL E x I) [] u (k + 40) (n + 4000)) : WF M_L_law E Po w0 1874 (LL E x I) [] w k n := by
  obtain ⟨S0, SA, I9⟩ := S
  obtain ⟨k9, v, v2, hk9, hv, c1, c2⟩ := pr_bathedShare (E := E) (x := x) (m := x + 331) I9 (by omega)
  obtain ⟨f0, hA⟩ := id SA.2
  refine r_aload_n (q := 1875) dL_law_1874 rfl rfl rfl ?_
  refine r_aload (q := 1877) dL_law_1875 rfl rfl ?_
  refine r_callSH (q := 1880) (As := [_, _]) dL_law_1877 s_L_law_231 rfl rfl (Nat.le_of_ble_eq_true rfl) rfl rfl rfl (Nat.le_trans (Nat.add_le_add_left (Nat.le_of_ble_eq_true rfl) k) hk) (Nat.le_trans (Nat.add_le_add_left (Nat.le_of_ble_eq_true rfl) n) hn) ⟨Nat.le_trans (Nat.add_le_add_left (Nat.le_of_ble_eq_true rfl) k) hk, Nat.le_trans (Nat.add_le_add_left (Nat.le_of_ble_eq_true rfl) n) hn⟩ rfl ?_
  refine ct_L_bathedShare (Qh := fun h2 => h2 = h) S0.1 hA (ls_ax S0.2.2.1 (by omega) (by omega)) (by have := S0.2.2.2; omega) hk9 (fun z => (hv z).2) (c1 w S0.1) (fun u h2 q1 q2 q3 q4 => ?_)
  refine td_join (v := FP.f2d v) (Pp := xNext M_L_law E Po w0 1880 (LL E x I) [] _ _) S0 SA q2 q3 q4 (fun u2 T => ?_)
  show WF M_L_law E Po w0 1880 (LL E x I) [.int (nI k9)] u2 _ _
  refine WF.wide (k2 := k + 40) (n2 := n + 4000) ?_ (Nat.add_le_add_left (Nat.le_of_ble_eq_true rfl) k) (Nat.add_le_add_left (Nat.le_of_ble_eq_true rfl) n)
  refine r_istore (q := 1882) dL_law_1880 (Nat.le_of_ble_eq_true rfl) (xone_of rfl) rfl ?_
  refine WF.cw (md_of T.1.2.1).symm ?_
  refine r_aload_n (q := 1883) dL_law_1882 rfl rfl rfl ?_
  refine r_callV (q := 1886) (ci := 12) (As := []) dL_law_1883 s_L_law_233 md_g0 rfl rfl rfl (Nat.le_of_ble_eq_true rfl) rfl rfl rfl hk hn ⟨hk, hn⟩ rfl ?_
  refine c2 _ _ ?_
  show WF M_L_law E Po w0 1886 _ [.float v2] _ _ _
  refine r_fstore (q := 1888) dL_law_1886 (Nat.le_of_ble_eq_true rfl) (xone_of rfl) rfl ?_
  refine r_aload_n (q := 1889) dL_law_1888 rfl rfl rfl ?_
  refine r_callV (q := 1892) (ci := 12) (As := []) dL_law_1889 s_L_law_142 md_g0 rfl rfl rfl (Nat.le_of_ble_eq_true rfl) rfl rfl rfl hk hn ⟨hk, hn⟩ rfl ?_
  refine ct_X10_thrown ?_
  show WF M_L_law E Po w0 1892 _ [.int (nI k9)] _ _ _
  refine r_iload (q := 1894) dL_law_1892 rfl rfl ?_
  refine r_icmp_eq (q := 1899) (q2 := 1897) dL_law_1894 (by decide) rfl (fun _ => ?_) (fun h9 => absurd rfl h9)
  refine r_iload (q := 1901) dL_law_1899 rfl rfl ?_
  obtain ⟨TW0, TWA, f, hf, hfv⟩ := T
  subst q1
  have key : WF M_L_law E Po w0 1937 (((LL E x I).set 6 (some (.int (nI k9)))).set 7 (some (.float v2))) [] (md E u2 (x + 331) d r (upd o 2 (nI k9)) t) (k + 40) (n + 4000) := by
    refine r_goto (q := 2259) dL_law_1937 (by decide) ?_
    refine WF.drop 6 (WF.drop 7 ?_)
    exact kx _ h2 d r _ t ⟨TW0.md, TWA.md, (I9.oo o_2).mono (by omega)⟩
  refine r_if_ne (q := 1937) (q2 := 1904) dL_law_1901 (by decide) rfl (fun _ => key) (fun h9 => ?_)
  have k0 : k9 = 0 := nI_inj (b := 0) (by omega) (by decide) h9
  have ev : v2 = v := (hv k0).1
  subst ev
  refine r_aload (q := 1906) dL_law_1904 rfl rfl ?_
  refine r_iconst (q := 1907) (v := 0) dL_law_1906 rfl rfl ?_
  refine r_daload (q := 1908) dL_law_1907 ((md_out (Or.inr (by omega))).trans hf) (show vp_in 0 1 from vp_in_nI (n := 0) (by decide) (by decide)) rfl ?_
  refine r_fload (q := 1910) dL_law_1908 rfl rfl ?_
  refine r_f2d (q := 1911) dL_law_1910 (hv k0).2 rfl ?_
  refine r_dcmp (q := 1912) dL_law_1911 rfl ?_
  rw [show f (0 : Int32).toNatClampNeg = FP.f2d v2 from hfv k0, dcmp_s (hv k0).2]
  exact r_if_eq (q := 1937) (q2 := 1915) dL_law_1912 (by decide) rfl (fun _ => key) (fun h9 => absurd rfl h9)
set_option maxRecDepth 100000 in
set_option maxHeartbeats 4000000 in
theorem lc_feed {E : xE} {Po : xPo} {w0 w : xW} {x K I k n : Nat} {h : xHi} {d : xCo} {r : mRs} {o : Nat → Int32} {t : mTx} (S : LWS E w x K h d r o t) (hK : K + 15000 < 16000000) (hk : k + 40 ≤ 603072) (hn : n + 4000 ≤ 7227498) (hI : I + 2 < E.2.2.2.1) (hE : E.2.2.2.1 < 100000) (kx : ∀ u h2 d2 r2 o2 t2, LWS E u x (K + 15000) h2 d2 r2 o2 t2 → WF M_L_law E Po w0 2259 (LL E x I) [] u (k + 40) (n + 4000)) : WF M_L_law E Po w0 1940 (LL E x I) [] w k n := by
  obtain ⟨S0, SA, I9⟩ := S
  obtain ⟨k9, v, v2, Qh, Qo, hk9, hv, c1, c2, c3⟩ := pr_feed (E := E) (x := x) (m := x + 331) (y := ((E.2.2.2.2 (nI I + 1).toNatClampNeg).toUInt32 % 65536).toInt32) char_n I9 w S0.1
  obtain ⟨f0, hA⟩ := id SA.1
  refine r_aload_n (q := 1941) dL_law_1940 rfl rfl rfl ?_
  refine r_aload_n (q := 1942) dL_law_1941 rfl rfl rfl ?_
  refine r_iload (q := 1944) dL_law_1942 rfl rfl ?_
  refine r_iconst (q := 1945) (v := 1) dL_law_1944 rfl rfl ?_
  refine r_iadd (q := 1946) dL_law_1945 rfl ?_
  refine r_sld (q := 1947) dL_law_1946 (vi1 hI hE) rfl ?_
  refine r_i2c (q := 1948) dL_law_1947 rfl ?_
  refine r_aload_n (q := 1949) dL_law_1948 rfl rfl rfl ?_
  refine r_callSH (q := 1952) (As := [_, _, _]) dL_law_1949 s_L_law_234 rfl rfl (Nat.le_of_ble_eq_true rfl) rfl rfl rfl (Nat.le_trans (Nat.add_le_add_left (Nat.le_of_ble_eq_true rfl) k) hk) (Nat.le_trans (Nat.add_le_add_left (Nat.le_of_ble_eq_true rfl) n) hn) ⟨Nat.le_trans (Nat.add_le_add_left (Nat.le_of_ble_eq_true rfl) k) hk, Nat.le_trans (Nat.add_le_add_left (Nat.le_of_ble_eq_true rfl) n) hn⟩ rfl ?_
  refine ct_L_feed S0.1 hA (ls_ax S0.2.2.1 (by omega) (by omega)) (by have := S0.2.2.2; omega) hk9 c1 (fun u h2 q1 q2 q3 q4 => ?_)
  refine tw_join (Pp := xNext M_L_law E Po w0 1952 (LL E x I) [] _ _) S0 SA q2 q3 q4 (fun u2 T => ?_)
  show WF M_L_law E Po w0 1952 (LL E x I) [.int (nI k9)] u2 _ _
  refine WF.wide (k2 := k + 40) (n2 := n + 4000) ?_ (Nat.add_le_add_left (Nat.le_of_ble_eq_true rfl) k) (Nat.add_le_add_left (Nat.le_of_ble_eq_true rfl) n)
  refine r_istore (q := 1954) dL_law_1952 (Nat.le_of_ble_eq_true rfl) (xone_of rfl) rfl ?_
  refine WF.cw (md_of T.1.2.1).symm ?_
  refine r_aload_n (q := 1955) dL_law_1954 rfl rfl rfl ?_
  refine r_aload_n (q := 1956) dL_law_1955 rfl rfl rfl ?_
  refine r_iload (q := 1958) dL_law_1956 rfl rfl ?_
  refine r_iconst (q := 1959) (v := 1) dL_law_1958 rfl rfl ?_
  refine r_iadd (q := 1960) dL_law_1959 rfl ?_
  refine r_sld (q := 1961) dL_law_1960 (vi1 hI hE) rfl ?_
  refine r_i2c (q := 1962) dL_law_1961 rfl ?_
  refine r_callV (q := 1965) (ci := 12) (As := [_]) dL_law_1962 s_L_law_237 md_g0 rfl rfl rfl (Nat.le_of_ble_eq_true rfl) rfl rfl rfl hk hn ⟨hk, hn⟩ rfl ?_
  refine c2 _ _ (fun d2 r2 o2 t2 qo => ?_)
  obtain ⟨I2, e2⟩ := c3 h2 d2 r2 o2 t2 q1 qo
  show WF M_L_law E Po w0 1965 _ [.int v2] _ _ _
  refine r_istore (q := 1967) dL_law_1965 (Nat.le_of_ble_eq_true rfl) (xone_of rfl) rfl ?_
  refine r_aload_n (q := 1968) dL_law_1967 rfl rfl rfl ?_
  refine r_callV (q := 1971) (ci := 12) (As := []) dL_law_1968 s_L_law_142 md_g0 rfl rfl rfl (Nat.le_of_ble_eq_true rfl) rfl rfl rfl hk hn ⟨hk, hn⟩ rfl ?_
  refine ct_X10_thrown ?_
  show WF M_L_law E Po w0 1971 _ [.int (o2 2)] _ _ _
  rw [e2]
  refine r_iload (q := 1973) dL_law_1971 rfl rfl ?_
  refine r_icmp_eq (q := 1978) (q2 := 1976) dL_law_1973 (by decide) rfl (fun _ => ?_) (fun h9 => absurd rfl h9)
  refine r_iload (q := 1980) dL_law_1978 rfl rfl ?_
  obtain ⟨TW0, TWA, f, hf, hfv⟩ := T
  have key : WF M_L_law E Po w0 1995 (((LL E x I).set 6 (some (.int (nI k9)))).set 7 (some (.int v2))) [] (md E u2 (x + 331) d2 r2 o2 t2) (k + 40) (n + 4000) := by
    refine r_goto (q := 2259) dL_law_1995 (by decide) ?_
    refine WF.drop 6 (WF.drop 7 ?_)
    exact kx _ h2 d2 r2 o2 t2 ⟨TW0.md, TWA.md, I2⟩
  refine r_if_ne (q := 1995) (q2 := 1983) dL_law_1980 (by decide) rfl (fun _ => key) (fun h9 => ?_)
  have k0 : k9 = 0 := nI_inj (b := 0) (by have : k9 ≤ 1 := hk9; omega) (by decide) h9
  refine r_aload_n (q := 1984) dL_law_1983 rfl rfl rfl ?_
  refine r_iconst (q := 1985) (v := 0) dL_law_1984 rfl rfl ?_
  refine r_laload (q := 1986) dL_law_1985 ((md_out (Or.inr (by omega))).trans hf) (show vp_in 0 1 from vp_in_nI (n := 0) (by decide) (by decide)) rfl ?_
  refine r_iload (q := 1988) dL_law_1986 rfl rfl ?_
  refine r_i2l (q := 1989) dL_law_1988 rfl ?_
  refine r_lcmp (q := 1990) dL_law_1989 rfl ?_
  rw [show lg_cmp (f (0 : Int32).toNatClampNeg) v2.toInt64 = 0 from by rw [show f (0 : Int32).toNatClampNeg = v.toInt64 from hfv k0, hv k0, lcmp_s]]
  exact r_if_eq (q := 1995) (q2 := 1993) dL_law_1990 (by decide) rfl (fun _ => key) (fun h9 => absurd rfl h9)
set_option maxRecDepth 100000 in
set_option maxHeartbeats 4000000 in
theorem lc_read {E : xE} {Po : xPo} {w0 w : xW} {x K I k n : Nat} {h : xHi} {d : xCo} {r : mRs} {o : Nat → Int32} {t : mTx} (S : LWS E w x K h d r o t) (hK : K + 15000 < 16000000) (hk : k + 40 ≤ 603072) (hn : n + 4000 ≤ 7227498) (hI : I + 2 < E.2.2.2.1) (hE : E.2.2.2.1 < 100000) (kx : ∀ u h2 d2 r2 o2 t2, LWS E u x (K + 15000) h2 d2 r2 o2 t2 → WF M_L_law E Po w0 2259 (LL E x I) [] u (k + 40) (n + 4000)) : WF M_L_law E Po w0 1998 (LL E x I) [] w k n := by
  obtain ⟨S0, SA, I9⟩ := S
  obtain ⟨k9, v, v2, Qh, Qo, hk9, hv, c1, c2, c3⟩ := pr_read (E := E) (x := x) (m := x + 331) I9 hK w S0.1
  obtain ⟨f0, hA⟩ := id SA.1
  refine r_aload_n (q := 1999) dL_law_1998 rfl rfl rfl ?_
  refine r_aload_n (q := 2000) dL_law_1999 rfl rfl rfl ?_
  refine r_callSH (q := 2003) (As := [_, _]) dL_law_2000 s_L_law_238 rfl rfl (Nat.le_of_ble_eq_true rfl) rfl rfl rfl (Nat.le_trans (Nat.add_le_add_left (Nat.le_of_ble_eq_true rfl) k) hk) (Nat.le_trans (Nat.add_le_add_left (Nat.le_of_ble_eq_true rfl) n) hn) ⟨Nat.le_trans (Nat.add_le_add_left (Nat.le_of_ble_eq_true rfl) k) hk, Nat.le_trans (Nat.add_le_add_left (Nat.le_of_ble_eq_true rfl) n) hn⟩ rfl ?_
  refine ct_L_read S0.1 hA (ls_ax S0.2.2.1 (by omega) (by omega)) (by have := S0.2.2.2; omega) hk9 c1 (fun u h2 q1 q2 q3 q4 => ?_)
  refine tw_join (Pp := xNext M_L_law E Po w0 2003 (LL E x I) [] _ _) S0 SA q2 q3 q4 (fun u2 T => ?_)
  show WF M_L_law E Po w0 2003 (LL E x I) [.int (nI k9)] u2 _ _
  refine WF.wide (k2 := k + 40) (n2 := n + 4000) ?_ (Nat.add_le_add_left (Nat.le_of_ble_eq_true rfl) k) (Nat.add_le_add_left (Nat.le_of_ble_eq_true rfl) n)
  refine r_istore (q := 2005) dL_law_2003 (Nat.le_of_ble_eq_true rfl) (xone_of rfl) rfl ?_
  refine WF.cw (md_of T.1.2.1).symm ?_
  refine r_aload_n (q := 2006) dL_law_2005 rfl rfl rfl ?_
  refine r_callV (q := 2009) (ci := 12) (As := []) dL_law_2006 s_L_law_240 md_g0 rfl rfl rfl (Nat.le_of_ble_eq_true rfl) rfl rfl rfl hk hn ⟨hk, hn⟩ rfl ?_
  refine c2 _ _ (fun d2 r2 o2 t2 qo => ?_)
  obtain ⟨I2, e2⟩ := c3 h2 d2 r2 o2 t2 q1 qo
  show WF M_L_law E Po w0 2009 _ [.int v2] _ _ _
  refine r_istore (q := 2011) dL_law_2009 (Nat.le_of_ble_eq_true rfl) (xone_of rfl) rfl ?_
  refine r_aload_n (q := 2012) dL_law_2011 rfl rfl rfl ?_
  refine r_callV (q := 2015) (ci := 12) (As := []) dL_law_2012 s_L_law_142 md_g0 rfl rfl rfl (Nat.le_of_ble_eq_true rfl) rfl rfl rfl hk hn ⟨hk, hn⟩ rfl ?_
  refine ct_X10_thrown ?_
  show WF M_L_law E Po w0 2015 _ [.int (o2 2)] _ _ _
  rw [e2]
  refine r_iload (q := 2017) dL_law_2015 rfl rfl ?_
  refine r_icmp_eq (q := 2022) (q2 := 2020) dL_law_2017 (by decide) rfl (fun _ => ?_) (fun h9 => absurd rfl h9)
  refine r_iload (q := 2024) dL_law_2022 rfl rfl ?_
  obtain ⟨TW0, TWA, f, hf, hfv⟩ := T
  have key : WF M_L_law E Po w0 2039 (((LL E x I).set 6 (some (.int (nI k9)))).set 7 (some (.int v2))) [] (md E u2 (x + 331) d2 r2 o2 t2) (k + 40) (n + 4000) := by
    refine r_goto (q := 2259) dL_law_2039 (by decide) ?_
    refine WF.drop 6 (WF.drop 7 ?_)
    exact kx _ h2 d2 r2 o2 t2 ⟨TW0.md, TWA.md, I2⟩
  refine r_if_ne (q := 2039) (q2 := 2027) dL_law_2024 (by decide) rfl (fun _ => key) (fun h9 => ?_)
  have k0 : k9 = 0 := nI_inj (b := 0) (by have : k9 ≤ 2 := hk9; omega) (by decide) h9
  refine r_aload_n (q := 2028) dL_law_2027 rfl rfl rfl ?_
  refine r_iconst (q := 2029) (v := 0) dL_law_2028 rfl rfl ?_
  refine r_laload (q := 2030) dL_law_2029 ((md_out (Or.inr (by omega))).trans hf) (show vp_in 0 1 from vp_in_nI (n := 0) (by decide) (by decide)) rfl ?_
  refine r_iload (q := 2032) dL_law_2030 rfl rfl ?_
  refine r_i2l (q := 2033) dL_law_2032 rfl ?_
  refine r_lcmp (q := 2034) dL_law_2033 rfl ?_
  rw [show lg_cmp (f (0 : Int32).toNatClampNeg) v2.toInt64 = 0 from by rw [show f (0 : Int32).toNatClampNeg = v.toInt64 from hfv k0, hv k0, lcmp_s]]
  exact r_if_eq (q := 2039) (q2 := 2037) dL_law_2034 (by decide) rfl (fun _ => key) (fun h9 => absurd rfl h9)
set_option maxRecDepth 100000 in
set_option maxHeartbeats 4000000 in
theorem lc_faultPosition {E : xE} {Po : xPo} {w0 w : xW} {x K I k n : Nat} {h : xHi} {d : xCo} {r : mRs} {o : Nat → Int32} {t : mTx} (S : LWS E w x K h d r o t) (hK : K + 15000 < 16000000) (hk : k + 40 ≤ 603072) (hn : n + 4000 ≤ 7227498) (hI : I + 2 < E.2.2.2.1) (hE : E.2.2.2.1 < 100000) (kx : ∀ u h2 d2 r2 o2 t2, LWS E u x (K + 15000) h2 d2 r2 o2 t2 → WF M_L_law E Po w0 2259 (LL E x I) [] u (k + 40) (n + 4000)) : WF M_L_law E Po w0 2042 (LL E x I) [] w k n := by
  obtain ⟨S0, SA, I9⟩ := S
  obtain ⟨k9, v, v2, Qh, Qo, hk9, hv, c1, c2, c3⟩ := pr_faultPosition (E := E) (x := x) (m := x + 331) I9 w S0.1
  obtain ⟨f0, hA⟩ := id SA.1
  refine r_aload_n (q := 2043) dL_law_2042 rfl rfl rfl ?_
  refine r_aload_n (q := 2044) dL_law_2043 rfl rfl rfl ?_
  refine r_callSH (q := 2047) (As := [_, _]) dL_law_2044 s_L_law_241 rfl rfl (Nat.le_of_ble_eq_true rfl) rfl rfl rfl (Nat.le_trans (Nat.add_le_add_left (Nat.le_of_ble_eq_true rfl) k) hk) (Nat.le_trans (Nat.add_le_add_left (Nat.le_of_ble_eq_true rfl) n) hn) ⟨Nat.le_trans (Nat.add_le_add_left (Nat.le_of_ble_eq_true rfl) k) hk, Nat.le_trans (Nat.add_le_add_left (Nat.le_of_ble_eq_true rfl) n) hn⟩ rfl ?_
  refine ct_L_faultPosition S0.1 hA (ls_ax S0.2.2.1 (by omega) (by omega)) (by have := S0.2.2.2; omega) hk9 c1 (fun u h2 q1 q2 q3 q4 => ?_)
  refine tw_join (Pp := xNext M_L_law E Po w0 2047 (LL E x I) [] _ _) S0 SA q2 q3 q4 (fun u2 T => ?_)
  show WF M_L_law E Po w0 2047 (LL E x I) [.int (nI k9)] u2 _ _
  refine WF.wide (k2 := k + 40) (n2 := n + 4000) ?_ (Nat.add_le_add_left (Nat.le_of_ble_eq_true rfl) k) (Nat.add_le_add_left (Nat.le_of_ble_eq_true rfl) n)
  refine r_istore (q := 2049) dL_law_2047 (Nat.le_of_ble_eq_true rfl) (xone_of rfl) rfl ?_
  refine WF.cw (md_of T.1.2.1).symm ?_
  refine r_aload_n (q := 2050) dL_law_2049 rfl rfl rfl ?_
  refine r_callV (q := 2053) (ci := 12) (As := []) dL_law_2050 s_L_law_243 md_g0 rfl rfl rfl (Nat.le_of_ble_eq_true rfl) rfl rfl rfl hk hn ⟨hk, hn⟩ rfl ?_
  refine c2 _ _ (fun d2 r2 o2 t2 qo => ?_)
  obtain ⟨I2, e2⟩ := c3 h2 d2 r2 o2 t2 q1 qo
  show WF M_L_law E Po w0 2053 _ [.int v2] _ _ _
  refine r_istore (q := 2055) dL_law_2053 (Nat.le_of_ble_eq_true rfl) (xone_of rfl) rfl ?_
  refine r_aload_n (q := 2056) dL_law_2055 rfl rfl rfl ?_
  refine r_callV (q := 2059) (ci := 12) (As := []) dL_law_2056 s_L_law_142 md_g0 rfl rfl rfl (Nat.le_of_ble_eq_true rfl) rfl rfl rfl hk hn ⟨hk, hn⟩ rfl ?_
  refine ct_X10_thrown ?_
  show WF M_L_law E Po w0 2059 _ [.int (o2 2)] _ _ _
  rw [e2]
  refine r_iload (q := 2061) dL_law_2059 rfl rfl ?_
  refine r_icmp_eq (q := 2066) (q2 := 2064) dL_law_2061 (by decide) rfl (fun _ => ?_) (fun h9 => absurd rfl h9)
  refine r_iload (q := 2068) dL_law_2066 rfl rfl ?_
  obtain ⟨TW0, TWA, f, hf, hfv⟩ := T
  have key : WF M_L_law E Po w0 2083 (((LL E x I).set 6 (some (.int (nI k9)))).set 7 (some (.int v2))) [] (md E u2 (x + 331) d2 r2 o2 t2) (k + 40) (n + 4000) := by
    refine r_goto (q := 2259) dL_law_2083 (by decide) ?_
    refine WF.drop 6 (WF.drop 7 ?_)
    exact kx _ h2 d2 r2 o2 t2 ⟨TW0.md, TWA.md, I2⟩
  refine r_if_ne (q := 2083) (q2 := 2071) dL_law_2068 (by decide) rfl (fun _ => key) (fun h9 => ?_)
  have k0 : k9 = 0 := nI_inj (b := 0) (by have : k9 ≤ 1 := hk9; omega) (by decide) h9
  refine r_aload_n (q := 2072) dL_law_2071 rfl rfl rfl ?_
  refine r_iconst (q := 2073) (v := 0) dL_law_2072 rfl rfl ?_
  refine r_laload (q := 2074) dL_law_2073 ((md_out (Or.inr (by omega))).trans hf) (show vp_in 0 1 from vp_in_nI (n := 0) (by decide) (by decide)) rfl ?_
  refine r_iload (q := 2076) dL_law_2074 rfl rfl ?_
  refine r_i2l (q := 2077) dL_law_2076 rfl ?_
  refine r_lcmp (q := 2078) dL_law_2077 rfl ?_
  rw [show lg_cmp (f (0 : Int32).toNatClampNeg) v2.toInt64 = 0 from by rw [show f (0 : Int32).toNatClampNeg = v.toInt64 from hfv k0, hv k0, lcmp_s]]
  exact r_if_eq (q := 2083) (q2 := 2081) dL_law_2078 (by decide) rfl (fun _ => key) (fun h9 => absurd rfl h9)
set_option maxRecDepth 100000 in
set_option maxHeartbeats 4000000 in
theorem lc_refusal {E : xE} {Po : xPo} {w0 w : xW} {x K I k n : Nat} {h : xHi} {d : xCo} {r : mRs} {o : Nat → Int32} {t : mTx} (S : LWS E w x K h d r o t) (hK : K + 15000 < 16000000) (hk : k + 40 ≤ 603072) (hn : n + 4000 ≤ 7227498) (hI : I + 2 < E.2.2.2.1) (hE : E.2.2.2.1 < 100000) (kx : ∀ u h2 d2 r2 o2 t2, LWS E u x (K + 15000) h2 d2 r2 o2 t2 → WF M_L_law E Po w0 2259 (LL E x I) [] u (k + 40) (n + 4000)) : WF M_L_law E Po w0 2086 (LL E x I) [] w k n := by
  obtain ⟨S0, SA, I9⟩ := S
  by_cases hz : E.2.2.2.2 (nI I + 1).toNatClampNeg = 0
  · skip
    obtain ⟨k9, v, v2, Qh, Qo, hk9, hv, c1, c2, c3⟩ := pr_refusal (E := E) (x := x) (m := x + 331) (z := 0) I9 w S0.1
    obtain ⟨f0, hA⟩ := id SA.1
    refine r_aload_n (q := 2087) dL_law_2086 rfl rfl rfl ?_
    refine r_aload_n (q := 2088) dL_law_2087 rfl rfl rfl ?_
    refine r_iload (q := 2090) dL_law_2088 rfl rfl ?_
    refine r_iconst (q := 2091) (v := 1) dL_law_2090 rfl rfl ?_
    refine r_iadd (q := 2092) dL_law_2091 rfl ?_
    refine r_sld (q := 2093) dL_law_2092 (vi1 hI hE) rfl ?_
    refine r_if_eq (q := 2100) (q2 := 2096) dL_law_2093 (by decide) rfl (fun _ => ?_) (fun h9 => absurd hz h9)
    refine r_iconst (q := 2101) (v := 0) dL_law_2100 rfl rfl ?_
    refine r_aload_n (q := 2102) dL_law_2101 rfl rfl rfl ?_
    refine r_callSH (q := 2105) (As := [_, _, _]) dL_law_2102 s_L_law_244 rfl rfl (Nat.le_of_ble_eq_true rfl) rfl rfl rfl (Nat.le_trans (Nat.add_le_add_left (Nat.le_of_ble_eq_true rfl) k) hk) (Nat.le_trans (Nat.add_le_add_left (Nat.le_of_ble_eq_true rfl) n) hn) ⟨Nat.le_trans (Nat.add_le_add_left (Nat.le_of_ble_eq_true rfl) k) hk, Nat.le_trans (Nat.add_le_add_left (Nat.le_of_ble_eq_true rfl) n) hn⟩ rfl ?_
    refine ct_L_refusal S0.1 hA (ls_ax S0.2.2.1 (by omega) (by omega)) (by have := S0.2.2.2; omega) hk9 c1 (fun u h2 q1 q2 q3 q4 => ?_)
    refine tw_join (Pp := xNext M_L_law E Po w0 2105 (LL E x I) [] _ _) S0 SA q2 q3 q4 (fun u2 T => ?_)
    show WF M_L_law E Po w0 2105 (LL E x I) [.int (nI k9)] u2 _ _
    refine WF.wide (k2 := k + 40) (n2 := n + 4000) ?_ (Nat.add_le_add_left (Nat.le_of_ble_eq_true rfl) k) (Nat.add_le_add_left (Nat.le_of_ble_eq_true rfl) n)
    refine r_istore (q := 2107) dL_law_2105 (Nat.le_of_ble_eq_true rfl) (xone_of rfl) rfl ?_
    refine WF.cw (md_of T.1.2.1).symm ?_
    refine r_aload_n (q := 2108) dL_law_2107 rfl rfl rfl ?_
    refine r_aload_n (q := 2109) dL_law_2108 rfl rfl rfl ?_
    refine r_iload (q := 2111) dL_law_2109 rfl rfl ?_
    refine r_iconst (q := 2112) (v := 1) dL_law_2111 rfl rfl ?_
    refine r_iadd (q := 2113) dL_law_2112 rfl ?_
    refine r_sld (q := 2114) dL_law_2113 (vi1 hI hE) rfl ?_
    refine r_if_eq (q := 2121) (q2 := 2117) dL_law_2114 (by decide) rfl (fun _ => ?_) (fun h9 => absurd hz h9)
    refine r_iconst (q := 2122) (v := 0) dL_law_2121 rfl rfl ?_
    refine r_callV (q := 2125) (ci := 12) (As := [_]) dL_law_2122 s_L_law_247 md_g0 rfl rfl rfl (Nat.le_of_ble_eq_true rfl) rfl rfl rfl hk hn ⟨hk, hn⟩ rfl ?_
    refine c2 _ _ (fun d2 r2 o2 t2 qo => ?_)
    obtain ⟨I2, e2⟩ := c3 h2 d2 r2 o2 t2 q1 qo
    show WF M_L_law E Po w0 2125 _ [.int v2] _ _ _
    refine r_istore (q := 2127) dL_law_2125 (Nat.le_of_ble_eq_true rfl) (xone_of rfl) rfl ?_
    refine r_aload_n (q := 2128) dL_law_2127 rfl rfl rfl ?_
    refine r_callV (q := 2131) (ci := 12) (As := []) dL_law_2128 s_L_law_142 md_g0 rfl rfl rfl (Nat.le_of_ble_eq_true rfl) rfl rfl rfl hk hn ⟨hk, hn⟩ rfl ?_
    refine ct_X10_thrown ?_
    show WF M_L_law E Po w0 2131 _ [.int (o2 2)] _ _ _
    rw [e2]
    refine r_iload (q := 2133) dL_law_2131 rfl rfl ?_
    refine r_icmp_eq (q := 2138) (q2 := 2136) dL_law_2133 (by decide) rfl (fun _ => ?_) (fun h9 => absurd rfl h9)
    refine r_iload (q := 2140) dL_law_2138 rfl rfl ?_
    obtain ⟨TW0, TWA, f, hf, hfv⟩ := T
    have key : WF M_L_law E Po w0 2155 (((LL E x I).set 6 (some (.int (nI k9)))).set 7 (some (.int v2))) [] (md E u2 (x + 331) d2 r2 o2 t2) (k + 40) (n + 4000) := by
      refine r_goto (q := 2259) dL_law_2155 (by decide) ?_
      refine WF.drop 6 (WF.drop 7 ?_)
      exact kx _ h2 d2 r2 o2 t2 ⟨TW0.md, TWA.md, I2⟩
    refine r_if_ne (q := 2155) (q2 := 2143) dL_law_2140 (by decide) rfl (fun _ => key) (fun h9 => ?_)
    have k0 : k9 = 0 := nI_inj (b := 0) (by have : k9 ≤ 1 := hk9; omega) (by decide) h9
    refine r_aload_n (q := 2144) dL_law_2143 rfl rfl rfl ?_
    refine r_iconst (q := 2145) (v := 0) dL_law_2144 rfl rfl ?_
    refine r_laload (q := 2146) dL_law_2145 ((md_out (Or.inr (by omega))).trans hf) (show vp_in 0 1 from vp_in_nI (n := 0) (by decide) (by decide)) rfl ?_
    refine r_iload (q := 2148) dL_law_2146 rfl rfl ?_
    refine r_i2l (q := 2149) dL_law_2148 rfl ?_
    refine r_lcmp (q := 2150) dL_law_2149 rfl ?_
    rw [show lg_cmp (f (0 : Int32).toNatClampNeg) v2.toInt64 = 0 from by rw [show f (0 : Int32).toNatClampNeg = v.toInt64 from hfv k0, hv k0, lcmp_s]]
    exact r_if_eq (q := 2155) (q2 := 2153) dL_law_2150 (by decide) rfl (fun _ => key) (fun h9 => absurd rfl h9)
  · skip
    obtain ⟨k9, v, v2, Qh, Qo, hk9, hv, c1, c2, c3⟩ := pr_refusal (E := E) (x := x) (m := x + 331) (z := 1) I9 w S0.1
    obtain ⟨f0, hA⟩ := id SA.1
    refine r_aload_n (q := 2087) dL_law_2086 rfl rfl rfl ?_
    refine r_aload_n (q := 2088) dL_law_2087 rfl rfl rfl ?_
    refine r_iload (q := 2090) dL_law_2088 rfl rfl ?_
    refine r_iconst (q := 2091) (v := 1) dL_law_2090 rfl rfl ?_
    refine r_iadd (q := 2092) dL_law_2091 rfl ?_
    refine r_sld (q := 2093) dL_law_2092 (vi1 hI hE) rfl ?_
    refine r_if_eq (q := 2100) (q2 := 2096) dL_law_2093 (by decide) rfl (fun h9 => absurd h9 hz) (fun _ => ?_)
    refine r_iconst (q := 2097) (v := 1) dL_law_2096 rfl rfl ?_
    refine r_goto (q := 2101) dL_law_2097 (by decide) ?_
    refine r_aload_n (q := 2102) dL_law_2101 rfl rfl rfl ?_
    refine r_callSH (q := 2105) (As := [_, _, _]) dL_law_2102 s_L_law_244 rfl rfl (Nat.le_of_ble_eq_true rfl) rfl rfl rfl (Nat.le_trans (Nat.add_le_add_left (Nat.le_of_ble_eq_true rfl) k) hk) (Nat.le_trans (Nat.add_le_add_left (Nat.le_of_ble_eq_true rfl) n) hn) ⟨Nat.le_trans (Nat.add_le_add_left (Nat.le_of_ble_eq_true rfl) k) hk, Nat.le_trans (Nat.add_le_add_left (Nat.le_of_ble_eq_true rfl) n) hn⟩ rfl ?_
    refine ct_L_refusal S0.1 hA (ls_ax S0.2.2.1 (by omega) (by omega)) (by have := S0.2.2.2; omega) hk9 c1 (fun u h2 q1 q2 q3 q4 => ?_)
    refine tw_join (Pp := xNext M_L_law E Po w0 2105 (LL E x I) [] _ _) S0 SA q2 q3 q4 (fun u2 T => ?_)
    show WF M_L_law E Po w0 2105 (LL E x I) [.int (nI k9)] u2 _ _
    refine WF.wide (k2 := k + 40) (n2 := n + 4000) ?_ (Nat.add_le_add_left (Nat.le_of_ble_eq_true rfl) k) (Nat.add_le_add_left (Nat.le_of_ble_eq_true rfl) n)
    refine r_istore (q := 2107) dL_law_2105 (Nat.le_of_ble_eq_true rfl) (xone_of rfl) rfl ?_
    refine WF.cw (md_of T.1.2.1).symm ?_
    refine r_aload_n (q := 2108) dL_law_2107 rfl rfl rfl ?_
    refine r_aload_n (q := 2109) dL_law_2108 rfl rfl rfl ?_
    refine r_iload (q := 2111) dL_law_2109 rfl rfl ?_
    refine r_iconst (q := 2112) (v := 1) dL_law_2111 rfl rfl ?_
    refine r_iadd (q := 2113) dL_law_2112 rfl ?_
    refine r_sld (q := 2114) dL_law_2113 (vi1 hI hE) rfl ?_
    refine r_if_eq (q := 2121) (q2 := 2117) dL_law_2114 (by decide) rfl (fun h9 => absurd h9 hz) (fun _ => ?_)
    refine r_iconst (q := 2118) (v := 1) dL_law_2117 rfl rfl ?_
    refine r_goto (q := 2122) dL_law_2118 (by decide) ?_
    refine r_callV (q := 2125) (ci := 12) (As := [_]) dL_law_2122 s_L_law_247 md_g0 rfl rfl rfl (Nat.le_of_ble_eq_true rfl) rfl rfl rfl hk hn ⟨hk, hn⟩ rfl ?_
    refine c2 _ _ (fun d2 r2 o2 t2 qo => ?_)
    obtain ⟨I2, e2⟩ := c3 h2 d2 r2 o2 t2 q1 qo
    show WF M_L_law E Po w0 2125 _ [.int v2] _ _ _
    refine r_istore (q := 2127) dL_law_2125 (Nat.le_of_ble_eq_true rfl) (xone_of rfl) rfl ?_
    refine r_aload_n (q := 2128) dL_law_2127 rfl rfl rfl ?_
    refine r_callV (q := 2131) (ci := 12) (As := []) dL_law_2128 s_L_law_142 md_g0 rfl rfl rfl (Nat.le_of_ble_eq_true rfl) rfl rfl rfl hk hn ⟨hk, hn⟩ rfl ?_
    refine ct_X10_thrown ?_
    show WF M_L_law E Po w0 2131 _ [.int (o2 2)] _ _ _
    rw [e2]
    refine r_iload (q := 2133) dL_law_2131 rfl rfl ?_
    refine r_icmp_eq (q := 2138) (q2 := 2136) dL_law_2133 (by decide) rfl (fun _ => ?_) (fun h9 => absurd rfl h9)
    refine r_iload (q := 2140) dL_law_2138 rfl rfl ?_
    obtain ⟨TW0, TWA, f, hf, hfv⟩ := T
    have key : WF M_L_law E Po w0 2155 (((LL E x I).set 6 (some (.int (nI k9)))).set 7 (some (.int v2))) [] (md E u2 (x + 331) d2 r2 o2 t2) (k + 40) (n + 4000) := by
      refine r_goto (q := 2259) dL_law_2155 (by decide) ?_
      refine WF.drop 6 (WF.drop 7 ?_)
      exact kx _ h2 d2 r2 o2 t2 ⟨TW0.md, TWA.md, I2⟩
    refine r_if_ne (q := 2155) (q2 := 2143) dL_law_2140 (by decide) rfl (fun _ => key) (fun h9 => ?_)
    have k0 : k9 = 0 := nI_inj (b := 0) (by have : k9 ≤ 1 := hk9; omega) (by decide) h9
    refine r_aload_n (q := 2144) dL_law_2143 rfl rfl rfl ?_
    refine r_iconst (q := 2145) (v := 0) dL_law_2144 rfl rfl ?_
    refine r_laload (q := 2146) dL_law_2145 ((md_out (Or.inr (by omega))).trans hf) (show vp_in 0 1 from vp_in_nI (n := 0) (by decide) (by decide)) rfl ?_
    refine r_iload (q := 2148) dL_law_2146 rfl rfl ?_
    refine r_i2l (q := 2149) dL_law_2148 rfl ?_
    refine r_lcmp (q := 2150) dL_law_2149 rfl ?_
    rw [show lg_cmp (f (0 : Int32).toNatClampNeg) v2.toInt64 = 0 from by rw [show f (0 : Int32).toNatClampNeg = v.toInt64 from hfv k0, hv k0, lcmp_s]]
    exact r_if_eq (q := 2155) (q2 := 2153) dL_law_2150 (by decide) rfl (fun _ => key) (fun h9 => absurd rfl h9)
set_option maxRecDepth 100000 in
set_option maxHeartbeats 4000000 in
theorem lc_undo {E : xE} {Po : xPo} {w0 w : xW} {x K I k n : Nat} {h : xHi} {d : xCo} {r : mRs} {o : Nat → Int32} {t : mTx} (S : LWS E w x K h d r o t) (hK : K + 15000 < 16000000) (hk : k + 40 ≤ 603072) (hn : n + 4000 ≤ 7227498) (hI : I + 2 < E.2.2.2.1) (hE : E.2.2.2.1 < 100000) (kx : ∀ u h2 d2 r2 o2 t2, LWS E u x (K + 15000) h2 d2 r2 o2 t2 → WF M_L_law E Po w0 2259 (LL E x I) [] u (k + 40) (n + 4000)) : WF M_L_law E Po w0 2158 (LL E x I) [] w k n := by
  obtain ⟨S0, SA, I9⟩ := S
  obtain ⟨k9, v, v2, Qh, Qo, hk9, hv, c1, c2, c3⟩ := pr_undo (E := E) (x := x) (m := x + 331) I9 w S0.1
  obtain ⟨f0, hA⟩ := id SA.1
  refine r_aload_n (q := 2159) dL_law_2158 rfl rfl rfl ?_
  refine r_aload_n (q := 2160) dL_law_2159 rfl rfl rfl ?_
  refine r_callSH (q := 2163) (As := [_, _]) dL_law_2160 s_L_law_248 rfl rfl (Nat.le_of_ble_eq_true rfl) rfl rfl rfl (Nat.le_trans (Nat.add_le_add_left (Nat.le_of_ble_eq_true rfl) k) hk) (Nat.le_trans (Nat.add_le_add_left (Nat.le_of_ble_eq_true rfl) n) hn) ⟨Nat.le_trans (Nat.add_le_add_left (Nat.le_of_ble_eq_true rfl) k) hk, Nat.le_trans (Nat.add_le_add_left (Nat.le_of_ble_eq_true rfl) n) hn⟩ rfl ?_
  refine ct_L_undo S0.1 hA (ls_ax S0.2.2.1 (by omega) (by omega)) (by have := S0.2.2.2; omega) hk9 c1 (fun u h2 q1 q2 q3 q4 => ?_)
  refine tw_join (Pp := xNext M_L_law E Po w0 2163 (LL E x I) [] _ _) S0 SA q2 q3 q4 (fun u2 T => ?_)
  show WF M_L_law E Po w0 2163 (LL E x I) [.int (nI k9)] u2 _ _
  refine WF.wide (k2 := k + 40) (n2 := n + 4000) ?_ (Nat.add_le_add_left (Nat.le_of_ble_eq_true rfl) k) (Nat.add_le_add_left (Nat.le_of_ble_eq_true rfl) n)
  refine r_istore (q := 2165) dL_law_2163 (Nat.le_of_ble_eq_true rfl) (xone_of rfl) rfl ?_
  refine WF.cw (md_of T.1.2.1).symm ?_
  refine r_aload_n (q := 2166) dL_law_2165 rfl rfl rfl ?_
  refine r_callV (q := 2169) (ci := 12) (As := []) dL_law_2166 s_L_law_250 md_g0 rfl rfl rfl (Nat.le_of_ble_eq_true rfl) rfl rfl rfl hk hn ⟨hk, hn⟩ rfl ?_
  refine c2 _ _ (fun d2 r2 o2 t2 qo => ?_)
  obtain ⟨I2, e2⟩ := c3 h2 d2 r2 o2 t2 q1 qo
  show WF M_L_law E Po w0 2169 _ [.int v2] _ _ _
  refine r_istore (q := 2171) dL_law_2169 (Nat.le_of_ble_eq_true rfl) (xone_of rfl) rfl ?_
  refine r_aload_n (q := 2172) dL_law_2171 rfl rfl rfl ?_
  refine r_callV (q := 2175) (ci := 12) (As := []) dL_law_2172 s_L_law_142 md_g0 rfl rfl rfl (Nat.le_of_ble_eq_true rfl) rfl rfl rfl hk hn ⟨hk, hn⟩ rfl ?_
  refine ct_X10_thrown ?_
  show WF M_L_law E Po w0 2175 _ [.int (o2 2)] _ _ _
  rw [e2]
  refine r_iload (q := 2177) dL_law_2175 rfl rfl ?_
  refine r_icmp_eq (q := 2182) (q2 := 2180) dL_law_2177 (by decide) rfl (fun _ => ?_) (fun h9 => absurd rfl h9)
  refine r_iload (q := 2184) dL_law_2182 rfl rfl ?_
  obtain ⟨TW0, TWA, f, hf, hfv⟩ := T
  have key : WF M_L_law E Po w0 2199 (((LL E x I).set 6 (some (.int (nI k9)))).set 7 (some (.int v2))) [] (md E u2 (x + 331) d2 r2 o2 t2) (k + 40) (n + 4000) := by
    refine r_goto (q := 2259) dL_law_2199 (by decide) ?_
    refine WF.drop 6 (WF.drop 7 ?_)
    exact kx _ h2 d2 r2 o2 t2 ⟨TW0.md, TWA.md, I2⟩
  refine r_if_ne (q := 2199) (q2 := 2187) dL_law_2184 (by decide) rfl (fun _ => key) (fun h9 => ?_)
  have k0 : k9 = 0 := nI_inj (b := 0) (by have : k9 ≤ 1 := hk9; omega) (by decide) h9
  refine r_aload_n (q := 2188) dL_law_2187 rfl rfl rfl ?_
  refine r_iconst (q := 2189) (v := 0) dL_law_2188 rfl rfl ?_
  refine r_laload (q := 2190) dL_law_2189 ((md_out (Or.inr (by omega))).trans hf) (show vp_in 0 1 from vp_in_nI (n := 0) (by decide) (by decide)) rfl ?_
  refine r_iload (q := 2192) dL_law_2190 rfl rfl ?_
  refine r_i2l (q := 2193) dL_law_2192 rfl ?_
  refine r_lcmp (q := 2194) dL_law_2193 rfl ?_
  rw [show lg_cmp (f (0 : Int32).toNatClampNeg) v2.toInt64 = 0 from by rw [show f (0 : Int32).toNatClampNeg = v.toInt64 from hfv k0, hv k0, lcmp_s]]
  exact r_if_eq (q := 2199) (q2 := 2197) dL_law_2194 (by decide) rfl (fun _ => key) (fun h9 => absurd rfl h9)
set_option maxRecDepth 100000 in
set_option maxHeartbeats 4000000 in
theorem lc_saveSnapshot {E : xE} {Po : xPo} {w0 w : xW} {x K I k n : Nat} {h : xHi} {d : xCo} {r : mRs} {o : Nat → Int32} {t : mTx} (S : LWS E w x K h d r o t) (hK : K + 15000 < 16000000) (hk : k + 40 ≤ 603072) (hn : n + 4000 ≤ 7227498) (hI : I + 2 < E.2.2.2.1) (hE : E.2.2.2.1 < 100000) (kx : ∀ u h2 d2 r2 o2 t2, LWS E u x (K + 15000) h2 d2 r2 o2 t2 → WF M_L_law E Po w0 2259 (LL E x I) [] u (k + 40) (n + 4000)) : WF M_L_law E Po w0 2202 (LL E x I) [] w k n := by
  obtain ⟨S0, SA, I9⟩ := S
  obtain ⟨k9, v, v2, Qh, Qo, hk9, hv, c1, c2, c3⟩ := pr_saveSnapshot (E := E) (x := x) (m := x + 331) I9 w S0.1
  have k0 : k9 = 0 := Nat.le_zero.mp hk9
  subst k0
  refine r_aload_n (q := 2203) dL_law_2202 rfl rfl rfl ?_
  refine r_callV (q := 2206) (ci := 11) (As := []) dL_law_2203 s_L_law_251 S0.1.1.1 rfl rfl rfl (Nat.le_of_ble_eq_true rfl) rfl rfl rfl (Nat.le_trans (Nat.add_le_add_left (Nat.le_of_ble_eq_true rfl) k) hk) (Nat.le_trans (Nat.add_le_add_left (Nat.le_of_ble_eq_true rfl) n) hn) ⟨Nat.le_trans (Nat.add_le_add_left (Nat.le_of_ble_eq_true rfl) k) hk, Nat.le_trans (Nat.add_le_add_left (Nat.le_of_ble_eq_true rfl) n) hn⟩ rfl ?_
  refine c1 _ (fun u h2 q1 q2 q3 q4 => ?_)
  show WF M_L_law E Po w0 2206 (LL E x I) [.int v] u _ _
  refine WF.wide (k2 := k + 40) (n2 := n + 4000) ?_ (Nat.add_le_add_left (Nat.le_of_ble_eq_true rfl) k) (Nat.add_le_add_left (Nat.le_of_ble_eq_true rfl) n)
  obtain ⟨TW0, TWA⟩ := S0.call SA q2 q3 q4
  refine WF.cw (md_of TW0.2.1).symm ?_
  refine r_aload_n (q := 2207) dL_law_2206 rfl rfl rfl ?_
  refine r_callV (q := 2210) (ci := 12) (As := []) dL_law_2207 s_L_law_254 md_g0 rfl rfl rfl (Nat.le_of_ble_eq_true rfl) rfl rfl rfl hk hn ⟨hk, hn⟩ rfl ?_
  refine c2 _ _ (fun d2 r2 o2 t2 qo => ?_)
  obtain ⟨I2, e2⟩ := c3 h2 d2 r2 o2 t2 q1 qo
  show WF M_L_law E Po w0 2210 _ [.int v2, .int v] _ _ _
  exact r_icmp_eq (q := 2259) (q2 := 2213) dL_law_2210 (by decide) rfl (fun _ => kx _ h2 d2 r2 o2 t2 ⟨TW0.md, TWA.md, I2⟩) (fun h9 => absurd (hv rfl).symm h9)
set_option maxRecDepth 100000 in
set_option maxHeartbeats 4000000 in
theorem lc_restoreSnapshot {E : xE} {Po : xPo} {w0 w : xW} {x K I k n : Nat} {h : xHi} {d : xCo} {r : mRs} {o : Nat → Int32} {t : mTx} (S : LWS E w x K h d r o t) (hK : K + 15000 < 16000000) (hk : k + 40 ≤ 603072) (hn : n + 4000 ≤ 7227498) (hI : I + 2 < E.2.2.2.1) (hE : E.2.2.2.1 < 100000) (kx : ∀ u h2 d2 r2 o2 t2, LWS E u x (K + 15000) h2 d2 r2 o2 t2 → WF M_L_law E Po w0 2259 (LL E x I) [] u (k + 40) (n + 4000)) : WF M_L_law E Po w0 2215 (LL E x I) [] w k n := by
  obtain ⟨S0, SA, I9⟩ := S
  obtain ⟨k9, v, v2, Qh, Qo, hk9, hv, c1, c2, c3⟩ := pr_restoreSnapshot (E := E) (x := x) (m := x + 331) I9 w S0.1
  obtain ⟨f0, hA⟩ := id SA.1
  refine r_aload_n (q := 2216) dL_law_2215 rfl rfl rfl ?_
  refine r_aload_n (q := 2217) dL_law_2216 rfl rfl rfl ?_
  refine r_callSH (q := 2220) (As := [_, _]) dL_law_2217 s_L_law_255 rfl rfl (Nat.le_of_ble_eq_true rfl) rfl rfl rfl (Nat.le_trans (Nat.add_le_add_left (Nat.le_of_ble_eq_true rfl) k) hk) (Nat.le_trans (Nat.add_le_add_left (Nat.le_of_ble_eq_true rfl) n) hn) ⟨Nat.le_trans (Nat.add_le_add_left (Nat.le_of_ble_eq_true rfl) k) hk, Nat.le_trans (Nat.add_le_add_left (Nat.le_of_ble_eq_true rfl) n) hn⟩ rfl ?_
  refine ct_L_restoreSnapshot S0.1 hA (ls_ax S0.2.2.1 (by omega) (by omega)) (by have := S0.2.2.2; omega) hk9 c1 (fun u h2 q1 q2 q3 q4 => ?_)
  refine tw_join (Pp := xNext M_L_law E Po w0 2220 (LL E x I) [] _ _) S0 SA q2 q3 q4 (fun u2 T => ?_)
  show WF M_L_law E Po w0 2220 (LL E x I) [.int (nI k9)] u2 _ _
  refine WF.wide (k2 := k + 40) (n2 := n + 4000) ?_ (Nat.add_le_add_left (Nat.le_of_ble_eq_true rfl) k) (Nat.add_le_add_left (Nat.le_of_ble_eq_true rfl) n)
  refine r_istore (q := 2222) dL_law_2220 (Nat.le_of_ble_eq_true rfl) (xone_of rfl) rfl ?_
  refine WF.cw (md_of T.1.2.1).symm ?_
  refine r_aload_n (q := 2223) dL_law_2222 rfl rfl rfl ?_
  refine r_callV (q := 2226) (ci := 12) (As := []) dL_law_2223 s_L_law_257 md_g0 rfl rfl rfl (Nat.le_of_ble_eq_true rfl) rfl rfl rfl hk hn ⟨hk, hn⟩ rfl ?_
  refine c2 _ _ (fun d2 r2 o2 t2 qo => ?_)
  obtain ⟨I2, e2⟩ := c3 h2 d2 r2 o2 t2 q1 qo
  show WF M_L_law E Po w0 2226 _ [.int v2] _ _ _
  refine r_istore (q := 2228) dL_law_2226 (Nat.le_of_ble_eq_true rfl) (xone_of rfl) rfl ?_
  refine r_aload_n (q := 2229) dL_law_2228 rfl rfl rfl ?_
  refine r_callV (q := 2232) (ci := 12) (As := []) dL_law_2229 s_L_law_142 md_g0 rfl rfl rfl (Nat.le_of_ble_eq_true rfl) rfl rfl rfl hk hn ⟨hk, hn⟩ rfl ?_
  refine ct_X10_thrown ?_
  show WF M_L_law E Po w0 2232 _ [.int (o2 2)] _ _ _
  rw [e2]
  refine r_iload (q := 2234) dL_law_2232 rfl rfl ?_
  refine r_icmp_eq (q := 2239) (q2 := 2237) dL_law_2234 (by decide) rfl (fun _ => ?_) (fun h9 => absurd rfl h9)
  refine r_iload (q := 2241) dL_law_2239 rfl rfl ?_
  obtain ⟨TW0, TWA, f, hf, hfv⟩ := T
  have key : WF M_L_law E Po w0 2256 (((LL E x I).set 6 (some (.int (nI k9)))).set 7 (some (.int v2))) [] (md E u2 (x + 331) d2 r2 o2 t2) (k + 40) (n + 4000) := by
    refine r_goto (q := 2259) dL_law_2256 (by decide) ?_
    refine WF.drop 6 (WF.drop 7 ?_)
    exact kx _ h2 d2 r2 o2 t2 ⟨TW0.md, TWA.md, I2⟩
  refine r_if_ne (q := 2256) (q2 := 2244) dL_law_2241 (by decide) rfl (fun _ => key) (fun h9 => ?_)
  have k0 : k9 = 0 := nI_inj (b := 0) (by have : k9 ≤ 1 := hk9; omega) (by decide) h9
  refine r_aload_n (q := 2245) dL_law_2244 rfl rfl rfl ?_
  refine r_iconst (q := 2246) (v := 0) dL_law_2245 rfl rfl ?_
  refine r_laload (q := 2247) dL_law_2246 ((md_out (Or.inr (by omega))).trans hf) (show vp_in 0 1 from vp_in_nI (n := 0) (by decide) (by decide)) rfl ?_
  refine r_iload (q := 2249) dL_law_2247 rfl rfl ?_
  refine r_i2l (q := 2250) dL_law_2249 rfl ?_
  refine r_lcmp (q := 2251) dL_law_2250 rfl ?_
  rw [show lg_cmp (f (0 : Int32).toNatClampNeg) v2.toInt64 = 0 from by rw [show f (0 : Int32).toNatClampNeg = v.toInt64 from hfv k0, hv k0, lcmp_s]]
  exact r_if_eq (q := 2256) (q2 := 2254) dL_law_2251 (by decide) rfl (fun _ => key) (fun h9 => absurd rfl h9)
