/-! ===== the law's cases (by program) ===== -/
theorem d_self {x : UInt64} (h : vf_n64 x) (op : CmpOp) : Op.cmpValue (FP.dcmp x x) op = 0 := by
  have h1 : Jvm.FP.Core.val64 x ≠ .nan := (Jvm.FP.Core.ne_nan x).mpr (by
    unfold vf_n64 at h
    rw [UInt64.le_iff_toNat_le, Jvm.FP.Core.mask_toNat] at h
    exact h)
  have h2 : FP.dcmp x x = some .eq := Jvm.FP.Core.dcmp_self h1
  rw [h2]
  cases op <;> rfl
section LCases
variable {G : Gl} {hh : List (Nat × Nat × Nat × Nat)} {b L : Nat} {xs : Nat → Int32} {μ : St} {cells slots W i : Nat}
theorem l_bool {pc : Nat} {Ls : List (Nat × Value)} {st : List Value} {y : Int32} (d0 : decode cL_law pc = .ok (.ifCond .eq 7, 3)) (d1 : decode cL_law (pc + 3) = .ok (.iconst 1, 1)) (d2 : decode cL_law (pc + 4) = .ok (.goto 4, 3)) (d3 : decode cL_law (pc + 7) = .ok (.iconst 0, 1)) (kk : VW G hh b L xs (pc + 8) Ls (.int (bI (decide (¬ y = 0))) :: st) μ cells slots) : VW G hh b L xs pc Ls (.int y :: st) μ cells slots := by
  refine v_if_eq (n := pc + 3) (t := pc + 7) d0 rfl (by omega) (fun h => ?_) (fun h => ?_)
  · have e : bI (decide (¬ y = 0)) = 0 := by rw [decide_eq_false (fun z => z h)]; rfl
    rw [e] at kk
    exact v_iconst (n := pc + 8) (x := 0) d3 rfl rfl kk
  · have e : bI (decide (¬ y = 0)) = 1 := by rw [decide_eq_true h]; rfl
    rw [e] at kk
    exact v_iconst (n := pc + 4) (x := 1) d1 rfl rfl (v_goto (n := pc + 8) d2 (by omega) kk)
theorem lc_clear (hG : G.2.2.2 = true) (hI : Inv μ W) (hi : i + 7 ≤ L) (hL : L ≤ 3584) (hW : W + 64 < 2 ^ 30) (hc : cells + 1 ≤ 603072) (hs : slots + 6 ≤ 7202922) (K : ∀ μ', Inv μ' (W + 64) → VW G hh b L xs 2576 (LB G b (nI i)) [] μ' (cells + 1) (slots + 6)) : VW G hh b L xs 216 (LB G b (nI i)) [] μ cells slots := by
  refine v_aload_n (n := 217) dL_law_216 rfl rfl ?_
  refine v_callV0 (n := 220) (k := 9) (b := 0) (i := 0) (As := []) (rest := []) dL_law_217 rfl lk_L_143 rfl rfl (Nat.le_of_ble_eq_true rfl) ⟨Nat.le_of_ble_eq_true rfl, Nat.le_of_ble_eq_true rfl, Nat.le_of_succ_le hc, Nat.le_trans (Nat.le_add_right _ _) hs⟩ zokc_9 (Lk.refl μ) (op_clear (offG G) hI) (fun v μ1 hp => ?_) (fun E μ1 hp => by obtain ⟨k, hk, -⟩ := hp; simp at hk)
  obtain ⟨r, rfl, hm⟩ := hp
  show VW _ _ _ _ _ _ _ [.int r] _ _ _
  refine v_aload_n (n := 221) dL_law_220 rfl rfl ?_
  refine v_callV0 (n := 224) (k := 10) (b := 0) (i := 0) (As := []) (rest := [.int r]) dL_law_221 rfl lk_L_146 rfl rfl (Nat.le_of_ble_eq_true rfl) ⟨Nat.le_of_ble_eq_true rfl, Nat.le_of_ble_eq_true rfl, Nat.le_of_succ_le hc, Nat.le_trans (Nat.le_add_right _ _) hs⟩ zokc_10 Lk.ovr hm (fun v μ2 hp => ?_) (fun _ _ hp => False.elim hp)
  obtain ⟨r', rfl, hI2, h6, hrr⟩ := hp
  show VW _ _ _ _ _ _ _ [.int r', .int r] _ _ _
  rw [hrr rfl]
  refine v_icmp_eq (n := 227) (t := 2576) dL_law_224 rfl (by decide) (fun _ => ?_) (fun z => absurd rfl z)
  exact v_wide (a := cells + 1) (b := slots + 6) (Nat.le_succ _) (Nat.le_add_right _ _) (K _ (hI2.lk Lk.ovr))
theorem lc_addLift (hG : G.2.2.2 = true) (hI : Inv μ W) (hi : i + 7 ≤ L) (hL : L ≤ 3584) (hW : W + 64 < 2 ^ 30) (hc : cells + 1 ≤ 603072) (hs : slots + 6 ≤ 7202922) (K : ∀ μ', Inv μ' (W + 64) → VW G hh b L xs 2576 (LB G b (nI i)) [] μ' (cells + 1) (slots + 6)) : VW G hh b L xs 229 (LB G b (nI i)) [] μ cells slots := by
  refine v_aload_n (n := 230) dL_law_229 rfl rfl ?_
  refine v_aload_n (n := 231) dL_law_230 rfl rfl ?_
  refine v_iload (n := 233) dL_law_231 rfl rfl ?_
  refine v_iconst (n := 234) (x := nI 1) dL_law_233 rfl rfl ?_
  refine v_iadd (n := 235) dL_law_234 rfl ?_
  refine l_sld (n := 236) (j := i + 1) dL_law_235 rfl (nI_add i 1) (by omega) hL ?_
  refine v_aload_n (n := 237) dL_law_236 rfl rfl ?_
  refine v_iload (n := 239) dL_law_237 rfl rfl ?_
  refine v_iconst (n := 240) (x := nI 2) dL_law_239 rfl rfl ?_
  refine v_iadd (n := 241) dL_law_240 rfl ?_
  refine l_sld (n := 242) (j := i + 2) dL_law_241 rfl (nI_add i 2) (by omega) hL ?_
  refine v_aload_n (n := 243) dL_law_242 rfl rfl ?_
  refine v_iload (n := 245) dL_law_243 rfl rfl ?_
  refine v_iconst (n := 246) (x := nI 3) dL_law_245 rfl rfl ?_
  refine v_iadd (n := 247) dL_law_246 rfl ?_
  refine l_sld (n := 248) (j := i + 3) dL_law_247 rfl (nI_add i 3) (by omega) hL ?_
  refine v_aload_n (n := 249) dL_law_248 rfl rfl ?_
  refine v_iload (n := 251) dL_law_249 rfl rfl ?_
  refine v_iconst (n := 252) (x := nI 4) dL_law_251 rfl rfl ?_
  refine v_iadd (n := 253) dL_law_252 rfl ?_
  refine l_sld (n := 254) (j := i + 4) dL_law_253 rfl (nI_add i 4) (by omega) hL ?_
  refine v_aload_n (n := 255) dL_law_254 rfl rfl ?_
  refine v_iload (n := 257) dL_law_255 rfl rfl ?_
  refine v_iconst (n := 258) (x := nI 5) dL_law_257 rfl rfl ?_
  refine v_iadd (n := 259) dL_law_258 rfl ?_
  refine l_sld (n := 260) (j := i + 5) dL_law_259 rfl (nI_add i 5) (by omega) hL ?_
  refine v_aload_n (n := 261) dL_law_260 rfl rfl ?_
  refine v_iload (n := 263) dL_law_261 rfl rfl ?_
  refine v_bipush (n := 265) (x := nI 6) dL_law_263 rfl rfl ?_
  refine v_iadd (n := 266) dL_law_265 rfl ?_
  refine l_sld (n := 267) (j := i + 6) dL_law_266 rfl (nI_add i 6) (by omega) hL ?_
  refine v_aload_n (n := 268) dL_law_267 rfl rfl ?_
  refine v_callH (n := 271) (As := [.ref (zad G.1 9 0 0), .int (xs (i + 1)), .int (xs (i + 2)), .int (xs (i + 3)), .int (xs (i + 4)), .int (xs (i + 5)), .int (xs (i + 6)), .ref (zad G.1 35 0 0)]) (rest := []) dL_law_268 rfl lk_L_147 rfl rfl (Nat.le_of_ble_eq_true rfl) ⟨Nat.le_of_ble_eq_true rfl, Nat.le_of_ble_eq_true rfl, hc, hs⟩ (lw_addLift hG ((xs (i + 1))) ((xs (i + 2))) ((xs (i + 3))) ((xs (i + 4))) ((xs (i + 5))) ((xs (i + 6))) (op_addLift (offG G) hI ((xs (i + 1))) ((xs (i + 2))) ((xs (i + 3))) ((xs (i + 4))) ((xs (i + 5))) ((xs (i + 6))))) (fun v μ1 hp => ?_) (fun _ _ hp => False.elim hp)
  obtain ⟨k, r, μ0, hk4, rfl, hlk, hm, hr⟩ := hp
  show VW _ _ _ _ _ _ _ [.int (nI k)] _ _ _
  refine v_istore (n := 273) (L' := [(0, .ref b), (1, .ref (zad G.1 9 0 0)), (2, .ref (zad G.1 10 0 0)), (3, .ref (zad G.1 35 0 0)), (4, .ref (zad G.1 36 0 0)), (5, .int (nI i)), (6, .int (nI k))]) dL_law_271 rfl (show 7 ≤ 9 by decide) rfl ?_
  refine v_aload_n (n := 274) dL_law_273 rfl rfl ?_
  refine v_aload_n (n := 275) dL_law_274 rfl rfl ?_
  refine v_iload (n := 277) dL_law_275 rfl rfl ?_
  refine v_iconst (n := 278) (x := nI 1) dL_law_277 rfl rfl ?_
  refine v_iadd (n := 279) dL_law_278 rfl ?_
  refine l_sld (n := 280) (j := i + 1) dL_law_279 rfl (nI_add i 1) (by omega) hL ?_
  refine v_aload_n (n := 281) dL_law_280 rfl rfl ?_
  refine v_iload (n := 283) dL_law_281 rfl rfl ?_
  refine v_iconst (n := 284) (x := nI 2) dL_law_283 rfl rfl ?_
  refine v_iadd (n := 285) dL_law_284 rfl ?_
  refine l_sld (n := 286) (j := i + 2) dL_law_285 rfl (nI_add i 2) (by omega) hL ?_
  refine v_aload_n (n := 287) dL_law_286 rfl rfl ?_
  refine v_iload (n := 289) dL_law_287 rfl rfl ?_
  refine v_iconst (n := 290) (x := nI 3) dL_law_289 rfl rfl ?_
  refine v_iadd (n := 291) dL_law_290 rfl ?_
  refine l_sld (n := 292) (j := i + 3) dL_law_291 rfl (nI_add i 3) (by omega) hL ?_
  refine v_aload_n (n := 293) dL_law_292 rfl rfl ?_
  refine v_iload (n := 295) dL_law_293 rfl rfl ?_
  refine v_iconst (n := 296) (x := nI 4) dL_law_295 rfl rfl ?_
  refine v_iadd (n := 297) dL_law_296 rfl ?_
  refine l_sld (n := 298) (j := i + 4) dL_law_297 rfl (nI_add i 4) (by omega) hL ?_
  refine v_aload_n (n := 299) dL_law_298 rfl rfl ?_
  refine v_iload (n := 301) dL_law_299 rfl rfl ?_
  refine v_iconst (n := 302) (x := nI 5) dL_law_301 rfl rfl ?_
  refine v_iadd (n := 303) dL_law_302 rfl ?_
  refine l_sld (n := 304) (j := i + 5) dL_law_303 rfl (nI_add i 5) (by omega) hL ?_
  refine v_aload_n (n := 305) dL_law_304 rfl rfl ?_
  refine v_iload (n := 307) dL_law_305 rfl rfl ?_
  refine v_bipush (n := 309) (x := nI 6) dL_law_307 rfl rfl ?_
  refine v_iadd (n := 310) dL_law_309 rfl ?_
  refine l_sld (n := 311) (j := i + 6) dL_law_310 rfl (nI_add i 6) (by omega) hL ?_
  refine v_callV0 (n := 314) (k := 10) (b := 0) (i := 0) (As := [.int (xs (i + 1)), .int (xs (i + 2)), .int (xs (i + 3)), .int (xs (i + 4)), .int (xs (i + 5)), .int (xs (i + 6))]) (rest := []) dL_law_311 rfl lk_L_152 rfl rfl (Nat.le_of_ble_eq_true rfl) ⟨Nat.le_of_ble_eq_true rfl, Nat.le_of_ble_eq_true rfl, hc, hs⟩ zokc_10 hlk hm (fun v μ2 hp => ?_) (fun _ _ hp => False.elim hp)
  obtain ⟨r', rfl, hI2, h6, hrr⟩ := hp
  have hI3 : Inv (ov μ1 μ2) (W + 64) := hI2.lk Lk.ovr
  have h63 : ov μ1 μ2 10 0 0 6 = nI k := (ov_lt (by decide)).trans h6
  show VW _ _ _ _ _ _ _ [.int r'] _ _ _
  refine v_istore (n := 316) (L' := [(0, .ref b), (1, .ref (zad G.1 9 0 0)), (2, .ref (zad G.1 10 0 0)), (3, .ref (zad G.1 35 0 0)), (4, .ref (zad G.1 36 0 0)), (5, .int (nI i)), (6, .int (nI k)), (7, .int r')]) dL_law_314 rfl (show 8 ≤ 9 by decide) rfl ?_
  refine v_aload_n (n := 317) dL_law_316 rfl rfl ?_
  refine v_callV (n := 320) (k := 10) (b := 0) (i := 0) (As := []) (rest := []) dL_law_317 rfl lk_L_153 rfl rfl (Nat.le_of_ble_eq_true rfl) ⟨Nat.le_of_ble_eq_true rfl, Nat.le_of_ble_eq_true rfl, hc, hs⟩ zokc_10 (wX8_thrown G (P := fun v μ9 => v = some (.int (nI k)) ∧ μ9 = ov μ1 μ2) (X := noX) (ov μ1 μ2) ⟨by rw [h63], rfl⟩) (fun v μ9 hp => ?_) (fun _ _ hp => False.elim hp)
  obtain ⟨rfl, rfl⟩ := hp
  show VW _ _ _ _ _ _ _ [.int (nI k)] _ _ _
  refine v_iload (n := 322) dL_law_320 rfl rfl ?_
  refine v_icmp_eq (n := 325) (t := 327) dL_law_322 rfl (by decide) (fun _ => ?_) (fun z => absurd rfl z)
  refine v_iload (n := 329) dL_law_327 rfl rfl ?_
  have fin : VW G hh b L xs 344 [(0, .ref b), (1, .ref (zad G.1 9 0 0)), (2, .ref (zad G.1 10 0 0)), (3, .ref (zad G.1 35 0 0)), (4, .ref (zad G.1 36 0 0)), (5, .int (nI i)), (6, .int (nI k)), (7, .int r')] [] (ov μ1 μ2) (cells + 1) (slots + 6) := v_goto (n := 2576) dL_law_344 (by decide) (v_pick [0, 1, 2, 3, 4, 5] rfl (K _ hI3))
  refine v_if_ne (n := 332) (t := 344) dL_law_329 rfl (by decide) (fun _ => fin) (fun z => ?_)
  have hk0 := nI0_of hk4 z
  refine v_aload_n (n := 333) dL_law_332 rfl rfl ?_
  refine v_iconst (n := 334) (x := nI 0) dL_law_333 rfl rfl ?_
  refine v_lald (n := 335) (j := 0) (v := .long r.toInt64) dL_law_334 rfl hG zokc_35 (by decide) rfl rfl (by decide) (by show Value.long (ov μ1 μ2 35 0 0 0).toInt64 = _; rw [ov_ge (Or.inl rfl), hr hk0]) ?_
  refine v_iload (n := 337) dL_law_335 rfl rfl ?_
  refine v_i2l (n := 338) dL_law_337 rfl ?_
  rw [hrr hk0]
  refine v_lcmp (n := 339) dL_law_338 rfl ?_
  rw [lg_self]
  exact v_if_eq (n := 342) (t := 344) dL_law_339 rfl (by decide) (fun _ => by rw [hrr hk0] at fin; exact fin) (fun z => absurd rfl z)
theorem lc_addPiste (hG : G.2.2.2 = true) (hI : Inv μ W) (hi : i + 7 ≤ L) (hL : L ≤ 3584) (hW : W + 64 < 2 ^ 30) (hc : cells + 1 ≤ 603072) (hs : slots + 6 ≤ 7202922) (K : ∀ μ', Inv μ' (W + 64) → VW G hh b L xs 2576 (LB G b (nI i)) [] μ' (cells + 1) (slots + 6)) : VW G hh b L xs 347 (LB G b (nI i)) [] μ cells slots := by
  refine v_aload_n (n := 348) dL_law_347 rfl rfl ?_
  refine v_aload_n (n := 349) dL_law_348 rfl rfl ?_
  refine v_iload (n := 351) dL_law_349 rfl rfl ?_
  refine v_iconst (n := 352) (x := nI 1) dL_law_351 rfl rfl ?_
  refine v_iadd (n := 353) dL_law_352 rfl ?_
  refine l_sld (n := 354) (j := i + 1) dL_law_353 rfl (nI_add i 1) (by omega) hL ?_
  refine v_aload_n (n := 355) dL_law_354 rfl rfl ?_
  refine v_iload (n := 357) dL_law_355 rfl rfl ?_
  refine v_iconst (n := 358) (x := nI 2) dL_law_357 rfl rfl ?_
  refine v_iadd (n := 359) dL_law_358 rfl ?_
  refine l_sld (n := 360) (j := i + 2) dL_law_359 rfl (nI_add i 2) (by omega) hL ?_
  refine v_aload_n (n := 361) dL_law_360 rfl rfl ?_
  refine v_iload (n := 363) dL_law_361 rfl rfl ?_
  refine v_iconst (n := 364) (x := nI 3) dL_law_363 rfl rfl ?_
  refine v_iadd (n := 365) dL_law_364 rfl ?_
  refine l_sld (n := 366) (j := i + 3) dL_law_365 rfl (nI_add i 3) (by omega) hL ?_
  refine v_aload_n (n := 367) dL_law_366 rfl rfl ?_
  refine v_iload (n := 369) dL_law_367 rfl rfl ?_
  refine v_iconst (n := 370) (x := nI 4) dL_law_369 rfl rfl ?_
  refine v_iadd (n := 371) dL_law_370 rfl ?_
  refine l_sld (n := 372) (j := i + 4) dL_law_371 rfl (nI_add i 4) (by omega) hL ?_
  refine v_aload_n (n := 373) dL_law_372 rfl rfl ?_
  refine v_callH (n := 376) (As := [.ref (zad G.1 9 0 0), .int (xs (i + 1)), .int (xs (i + 2)), .int (xs (i + 3)), .int (xs (i + 4)), .ref (zad G.1 35 0 0)]) (rest := []) dL_law_373 rfl lk_L_156 rfl rfl (Nat.le_of_ble_eq_true rfl) ⟨Nat.le_of_ble_eq_true rfl, Nat.le_of_ble_eq_true rfl, hc, hs⟩ (lw_addPiste hG ((xs (i + 1))) ((xs (i + 2))) ((xs (i + 3))) ((xs (i + 4))) (op_addPiste (offG G) hI ((xs (i + 1))) ((xs (i + 2))) ((xs (i + 3))) ((xs (i + 4))))) (fun v μ1 hp => ?_) (fun _ _ hp => False.elim hp)
  obtain ⟨k, r, μ0, hk4, rfl, hlk, hm, hr⟩ := hp
  show VW _ _ _ _ _ _ _ [.int (nI k)] _ _ _
  refine v_istore (n := 378) (L' := [(0, .ref b), (1, .ref (zad G.1 9 0 0)), (2, .ref (zad G.1 10 0 0)), (3, .ref (zad G.1 35 0 0)), (4, .ref (zad G.1 36 0 0)), (5, .int (nI i)), (6, .int (nI k))]) dL_law_376 rfl (show 7 ≤ 9 by decide) rfl ?_
  refine v_aload_n (n := 379) dL_law_378 rfl rfl ?_
  refine v_aload_n (n := 380) dL_law_379 rfl rfl ?_
  refine v_iload (n := 382) dL_law_380 rfl rfl ?_
  refine v_iconst (n := 383) (x := nI 1) dL_law_382 rfl rfl ?_
  refine v_iadd (n := 384) dL_law_383 rfl ?_
  refine l_sld (n := 385) (j := i + 1) dL_law_384 rfl (nI_add i 1) (by omega) hL ?_
  refine v_aload_n (n := 386) dL_law_385 rfl rfl ?_
  refine v_iload (n := 388) dL_law_386 rfl rfl ?_
  refine v_iconst (n := 389) (x := nI 2) dL_law_388 rfl rfl ?_
  refine v_iadd (n := 390) dL_law_389 rfl ?_
  refine l_sld (n := 391) (j := i + 2) dL_law_390 rfl (nI_add i 2) (by omega) hL ?_
  refine v_aload_n (n := 392) dL_law_391 rfl rfl ?_
  refine v_iload (n := 394) dL_law_392 rfl rfl ?_
  refine v_iconst (n := 395) (x := nI 3) dL_law_394 rfl rfl ?_
  refine v_iadd (n := 396) dL_law_395 rfl ?_
  refine l_sld (n := 397) (j := i + 3) dL_law_396 rfl (nI_add i 3) (by omega) hL ?_
  refine v_aload_n (n := 398) dL_law_397 rfl rfl ?_
  refine v_iload (n := 400) dL_law_398 rfl rfl ?_
  refine v_iconst (n := 401) (x := nI 4) dL_law_400 rfl rfl ?_
  refine v_iadd (n := 402) dL_law_401 rfl ?_
  refine l_sld (n := 403) (j := i + 4) dL_law_402 rfl (nI_add i 4) (by omega) hL ?_
  refine v_callV0 (n := 406) (k := 10) (b := 0) (i := 0) (As := [.int (xs (i + 1)), .int (xs (i + 2)), .int (xs (i + 3)), .int (xs (i + 4))]) (rest := []) dL_law_403 rfl lk_L_159 rfl rfl (Nat.le_of_ble_eq_true rfl) ⟨Nat.le_of_ble_eq_true rfl, Nat.le_of_ble_eq_true rfl, hc, hs⟩ zokc_10 hlk hm (fun v μ2 hp => ?_) (fun _ _ hp => False.elim hp)
  obtain ⟨r', rfl, hI2, h6, hrr⟩ := hp
  have hI3 : Inv (ov μ1 μ2) (W + 64) := hI2.lk Lk.ovr
  have h63 : ov μ1 μ2 10 0 0 6 = nI k := (ov_lt (by decide)).trans h6
  show VW _ _ _ _ _ _ _ [.int r'] _ _ _
  refine v_istore (n := 408) (L' := [(0, .ref b), (1, .ref (zad G.1 9 0 0)), (2, .ref (zad G.1 10 0 0)), (3, .ref (zad G.1 35 0 0)), (4, .ref (zad G.1 36 0 0)), (5, .int (nI i)), (6, .int (nI k)), (7, .int r')]) dL_law_406 rfl (show 8 ≤ 9 by decide) rfl ?_
  refine v_aload_n (n := 409) dL_law_408 rfl rfl ?_
  refine v_callV (n := 412) (k := 10) (b := 0) (i := 0) (As := []) (rest := []) dL_law_409 rfl lk_L_153 rfl rfl (Nat.le_of_ble_eq_true rfl) ⟨Nat.le_of_ble_eq_true rfl, Nat.le_of_ble_eq_true rfl, hc, hs⟩ zokc_10 (wX8_thrown G (P := fun v μ9 => v = some (.int (nI k)) ∧ μ9 = ov μ1 μ2) (X := noX) (ov μ1 μ2) ⟨by rw [h63], rfl⟩) (fun v μ9 hp => ?_) (fun _ _ hp => False.elim hp)
  obtain ⟨rfl, rfl⟩ := hp
  show VW _ _ _ _ _ _ _ [.int (nI k)] _ _ _
  refine v_iload (n := 414) dL_law_412 rfl rfl ?_
  refine v_icmp_eq (n := 417) (t := 419) dL_law_414 rfl (by decide) (fun _ => ?_) (fun z => absurd rfl z)
  refine v_iload (n := 421) dL_law_419 rfl rfl ?_
  have fin : VW G hh b L xs 436 [(0, .ref b), (1, .ref (zad G.1 9 0 0)), (2, .ref (zad G.1 10 0 0)), (3, .ref (zad G.1 35 0 0)), (4, .ref (zad G.1 36 0 0)), (5, .int (nI i)), (6, .int (nI k)), (7, .int r')] [] (ov μ1 μ2) (cells + 1) (slots + 6) := v_goto (n := 2576) dL_law_436 (by decide) (v_pick [0, 1, 2, 3, 4, 5] rfl (K _ hI3))
  refine v_if_ne (n := 424) (t := 436) dL_law_421 rfl (by decide) (fun _ => fin) (fun z => ?_)
  have hk0 := nI0_of hk4 z
  refine v_aload_n (n := 425) dL_law_424 rfl rfl ?_
  refine v_iconst (n := 426) (x := nI 0) dL_law_425 rfl rfl ?_
  refine v_lald (n := 427) (j := 0) (v := .long r.toInt64) dL_law_426 rfl hG zokc_35 (by decide) rfl rfl (by decide) (by show Value.long (ov μ1 μ2 35 0 0 0).toInt64 = _; rw [ov_ge (Or.inl rfl), hr hk0]) ?_
  refine v_iload (n := 429) dL_law_427 rfl rfl ?_
  refine v_i2l (n := 430) dL_law_429 rfl ?_
  rw [hrr hk0]
  refine v_lcmp (n := 431) dL_law_430 rfl ?_
  rw [lg_self]
  exact v_if_eq (n := 434) (t := 436) dL_law_431 rfl (by decide) (fun _ => by rw [hrr hk0] at fin; exact fin) (fun z => absurd rfl z)
theorem lc_setWind (hG : G.2.2.2 = true) (hI : Inv μ W) (hi : i + 7 ≤ L) (hL : L ≤ 3584) (hW : W + 64 < 2 ^ 30) (hc : cells + 1 ≤ 603072) (hs : slots + 6 ≤ 7202922) (K : ∀ μ', Inv μ' (W + 64) → VW G hh b L xs 2576 (LB G b (nI i)) [] μ' (cells + 1) (slots + 6)) : VW G hh b L xs 439 (LB G b (nI i)) [] μ cells slots := by
  refine v_aload_n (n := 440) dL_law_439 rfl rfl ?_
  refine v_aload_n (n := 441) dL_law_440 rfl rfl ?_
  refine v_iload (n := 443) dL_law_441 rfl rfl ?_
  refine v_iconst (n := 444) (x := nI 1) dL_law_443 rfl rfl ?_
  refine v_iadd (n := 445) dL_law_444 rfl ?_
  refine l_sld (n := 446) (j := i + 1) dL_law_445 rfl (nI_add i 1) (by omega) hL ?_
  refine v_aload_n (n := 447) dL_law_446 rfl rfl ?_
  refine v_callH (n := 450) (As := [.ref (zad G.1 9 0 0), .int (xs (i + 1)), .ref (zad G.1 35 0 0)]) (rest := []) dL_law_447 rfl lk_L_160 rfl rfl (Nat.le_of_ble_eq_true rfl) ⟨Nat.le_of_ble_eq_true rfl, Nat.le_of_ble_eq_true rfl, hc, hs⟩ (lw_setWind hG ((xs (i + 1))) (op_setWind (offG G) hI ((xs (i + 1))))) (fun v μ1 hp => ?_) (fun _ _ hp => False.elim hp)
  obtain ⟨k, r, μ0, hk4, rfl, hlk, hm, hr⟩ := hp
  show VW _ _ _ _ _ _ _ [.int (nI k)] _ _ _
  refine v_istore (n := 452) (L' := [(0, .ref b), (1, .ref (zad G.1 9 0 0)), (2, .ref (zad G.1 10 0 0)), (3, .ref (zad G.1 35 0 0)), (4, .ref (zad G.1 36 0 0)), (5, .int (nI i)), (6, .int (nI k))]) dL_law_450 rfl (show 7 ≤ 9 by decide) rfl ?_
  refine v_aload_n (n := 453) dL_law_452 rfl rfl ?_
  refine v_aload_n (n := 454) dL_law_453 rfl rfl ?_
  refine v_iload (n := 456) dL_law_454 rfl rfl ?_
  refine v_iconst (n := 457) (x := nI 1) dL_law_456 rfl rfl ?_
  refine v_iadd (n := 458) dL_law_457 rfl ?_
  refine l_sld (n := 459) (j := i + 1) dL_law_458 rfl (nI_add i 1) (by omega) hL ?_
  refine v_callV0 (n := 462) (k := 10) (b := 0) (i := 0) (As := [.int (xs (i + 1))]) (rest := []) dL_law_459 rfl lk_L_163 rfl rfl (Nat.le_of_ble_eq_true rfl) ⟨Nat.le_of_ble_eq_true rfl, Nat.le_of_ble_eq_true rfl, hc, hs⟩ zokc_10 hlk hm (fun v μ2 hp => ?_) (fun _ _ hp => False.elim hp)
  obtain ⟨r', rfl, hI2, h6, hrr⟩ := hp
  have hI3 : Inv (ov μ1 μ2) (W + 64) := hI2.lk Lk.ovr
  have h63 : ov μ1 μ2 10 0 0 6 = nI k := (ov_lt (by decide)).trans h6
  show VW _ _ _ _ _ _ _ [.int r'] _ _ _
  refine v_istore (n := 464) (L' := [(0, .ref b), (1, .ref (zad G.1 9 0 0)), (2, .ref (zad G.1 10 0 0)), (3, .ref (zad G.1 35 0 0)), (4, .ref (zad G.1 36 0 0)), (5, .int (nI i)), (6, .int (nI k)), (7, .int r')]) dL_law_462 rfl (show 8 ≤ 9 by decide) rfl ?_
  refine v_aload_n (n := 465) dL_law_464 rfl rfl ?_
  refine v_callV (n := 468) (k := 10) (b := 0) (i := 0) (As := []) (rest := []) dL_law_465 rfl lk_L_153 rfl rfl (Nat.le_of_ble_eq_true rfl) ⟨Nat.le_of_ble_eq_true rfl, Nat.le_of_ble_eq_true rfl, hc, hs⟩ zokc_10 (wX8_thrown G (P := fun v μ9 => v = some (.int (nI k)) ∧ μ9 = ov μ1 μ2) (X := noX) (ov μ1 μ2) ⟨by rw [h63], rfl⟩) (fun v μ9 hp => ?_) (fun _ _ hp => False.elim hp)
  obtain ⟨rfl, rfl⟩ := hp
  show VW _ _ _ _ _ _ _ [.int (nI k)] _ _ _
  refine v_iload (n := 470) dL_law_468 rfl rfl ?_
  refine v_icmp_eq (n := 473) (t := 475) dL_law_470 rfl (by decide) (fun _ => ?_) (fun z => absurd rfl z)
  refine v_iload (n := 477) dL_law_475 rfl rfl ?_
  have fin : VW G hh b L xs 492 [(0, .ref b), (1, .ref (zad G.1 9 0 0)), (2, .ref (zad G.1 10 0 0)), (3, .ref (zad G.1 35 0 0)), (4, .ref (zad G.1 36 0 0)), (5, .int (nI i)), (6, .int (nI k)), (7, .int r')] [] (ov μ1 μ2) (cells + 1) (slots + 6) := v_goto (n := 2576) dL_law_492 (by decide) (v_pick [0, 1, 2, 3, 4, 5] rfl (K _ hI3))
  refine v_if_ne (n := 480) (t := 492) dL_law_477 rfl (by decide) (fun _ => fin) (fun z => ?_)
  have hk0 := nI0_of hk4 z
  refine v_aload_n (n := 481) dL_law_480 rfl rfl ?_
  refine v_iconst (n := 482) (x := nI 0) dL_law_481 rfl rfl ?_
  refine v_lald (n := 483) (j := 0) (v := .long r.toInt64) dL_law_482 rfl hG zokc_35 (by decide) rfl rfl (by decide) (by show Value.long (ov μ1 μ2 35 0 0 0).toInt64 = _; rw [ov_ge (Or.inl rfl), hr hk0]) ?_
  refine v_iload (n := 485) dL_law_483 rfl rfl ?_
  refine v_i2l (n := 486) dL_law_485 rfl ?_
  rw [hrr hk0]
  refine v_lcmp (n := 487) dL_law_486 rfl ?_
  rw [lg_self]
  exact v_if_eq (n := 490) (t := 492) dL_law_487 rfl (by decide) (fun _ => by rw [hrr hk0] at fin; exact fin) (fun z => absurd rfl z)
theorem lc_lift (hG : G.2.2.2 = true) (hI : Inv μ W) (hi : i + 7 ≤ L) (hL : L ≤ 3584) (hW : W + 64 < 2 ^ 30) (hc : cells + 1 ≤ 603072) (hs : slots + 6 ≤ 7202922) (K : ∀ μ', Inv μ' (W + 64) → VW G hh b L xs 2576 (LB G b (nI i)) [] μ' (cells + 1) (slots + 6)) : VW G hh b L xs 495 (LB G b (nI i)) [] μ cells slots := by
  refine v_aload_n (n := 496) dL_law_495 rfl rfl ?_
  refine v_aload_n (n := 497) dL_law_496 rfl rfl ?_
  refine v_iload (n := 499) dL_law_497 rfl rfl ?_
  refine v_iconst (n := 500) (x := nI 1) dL_law_499 rfl rfl ?_
  refine v_iadd (n := 501) dL_law_500 rfl ?_
  refine l_sld (n := 502) (j := i + 1) dL_law_501 rfl (nI_add i 1) (by omega) hL ?_
  refine v_aload_n (n := 503) dL_law_502 rfl rfl ?_
  refine v_iload (n := 505) dL_law_503 rfl rfl ?_
  refine v_iconst (n := 506) (x := nI 2) dL_law_505 rfl rfl ?_
  refine v_iadd (n := 507) dL_law_506 rfl ?_
  refine l_sld (n := 508) (j := i + 2) dL_law_507 rfl (nI_add i 2) (by omega) hL ?_
  refine v_aload_n (n := 509) dL_law_508 rfl rfl ?_
  refine v_callH (n := 512) (As := [.ref (zad G.1 9 0 0), .int (xs (i + 1)), .int (xs (i + 2)), .ref (zad G.1 35 0 0)]) (rest := []) dL_law_509 rfl lk_L_164 rfl rfl (Nat.le_of_ble_eq_true rfl) ⟨Nat.le_of_ble_eq_true rfl, Nat.le_of_ble_eq_true rfl, hc, hs⟩ (lw_lift hG ((xs (i + 1))) ((xs (i + 2))) (op_lift (offG G) hI ((xs (i + 1))) ((xs (i + 2))))) (fun v μ1 hp => ?_) (fun _ _ hp => False.elim hp)
  obtain ⟨k, r, μ0, hk4, rfl, hlk, hm, hr⟩ := hp
  show VW _ _ _ _ _ _ _ [.int (nI k)] _ _ _
  refine v_istore (n := 514) (L' := [(0, .ref b), (1, .ref (zad G.1 9 0 0)), (2, .ref (zad G.1 10 0 0)), (3, .ref (zad G.1 35 0 0)), (4, .ref (zad G.1 36 0 0)), (5, .int (nI i)), (6, .int (nI k))]) dL_law_512 rfl (show 7 ≤ 9 by decide) rfl ?_
  refine v_aload_n (n := 515) dL_law_514 rfl rfl ?_
  refine v_aload_n (n := 516) dL_law_515 rfl rfl ?_
  refine v_iload (n := 518) dL_law_516 rfl rfl ?_
  refine v_iconst (n := 519) (x := nI 1) dL_law_518 rfl rfl ?_
  refine v_iadd (n := 520) dL_law_519 rfl ?_
  refine l_sld (n := 521) (j := i + 1) dL_law_520 rfl (nI_add i 1) (by omega) hL ?_
  refine v_aload_n (n := 522) dL_law_521 rfl rfl ?_
  refine v_iload (n := 524) dL_law_522 rfl rfl ?_
  refine v_iconst (n := 525) (x := nI 2) dL_law_524 rfl rfl ?_
  refine v_iadd (n := 526) dL_law_525 rfl ?_
  refine l_sld (n := 527) (j := i + 2) dL_law_526 rfl (nI_add i 2) (by omega) hL ?_
  refine v_callV0 (n := 530) (k := 10) (b := 0) (i := 0) (As := [.int (xs (i + 1)), .int (xs (i + 2))]) (rest := []) dL_law_527 rfl lk_L_167 rfl rfl (Nat.le_of_ble_eq_true rfl) ⟨Nat.le_of_ble_eq_true rfl, Nat.le_of_ble_eq_true rfl, hc, hs⟩ zokc_10 hlk hm (fun v μ2 hp => ?_) (fun _ _ hp => False.elim hp)
  obtain ⟨r', rfl, hI2, h6, hrr⟩ := hp
  have hI3 : Inv (ov μ1 μ2) (W + 64) := hI2.lk Lk.ovr
  have h63 : ov μ1 μ2 10 0 0 6 = nI k := (ov_lt (by decide)).trans h6
  show VW _ _ _ _ _ _ _ [.int r'] _ _ _
  refine v_istore (n := 532) (L' := [(0, .ref b), (1, .ref (zad G.1 9 0 0)), (2, .ref (zad G.1 10 0 0)), (3, .ref (zad G.1 35 0 0)), (4, .ref (zad G.1 36 0 0)), (5, .int (nI i)), (6, .int (nI k)), (7, .int r')]) dL_law_530 rfl (show 8 ≤ 9 by decide) rfl ?_
  refine v_aload_n (n := 533) dL_law_532 rfl rfl ?_
  refine v_callV (n := 536) (k := 10) (b := 0) (i := 0) (As := []) (rest := []) dL_law_533 rfl lk_L_153 rfl rfl (Nat.le_of_ble_eq_true rfl) ⟨Nat.le_of_ble_eq_true rfl, Nat.le_of_ble_eq_true rfl, hc, hs⟩ zokc_10 (wX8_thrown G (P := fun v μ9 => v = some (.int (nI k)) ∧ μ9 = ov μ1 μ2) (X := noX) (ov μ1 μ2) ⟨by rw [h63], rfl⟩) (fun v μ9 hp => ?_) (fun _ _ hp => False.elim hp)
  obtain ⟨rfl, rfl⟩ := hp
  show VW _ _ _ _ _ _ _ [.int (nI k)] _ _ _
  refine v_iload (n := 538) dL_law_536 rfl rfl ?_
  refine v_icmp_eq (n := 541) (t := 543) dL_law_538 rfl (by decide) (fun _ => ?_) (fun z => absurd rfl z)
  refine v_iload (n := 545) dL_law_543 rfl rfl ?_
  have fin : VW G hh b L xs 560 [(0, .ref b), (1, .ref (zad G.1 9 0 0)), (2, .ref (zad G.1 10 0 0)), (3, .ref (zad G.1 35 0 0)), (4, .ref (zad G.1 36 0 0)), (5, .int (nI i)), (6, .int (nI k)), (7, .int r')] [] (ov μ1 μ2) (cells + 1) (slots + 6) := v_goto (n := 2576) dL_law_560 (by decide) (v_pick [0, 1, 2, 3, 4, 5] rfl (K _ hI3))
  refine v_if_ne (n := 548) (t := 560) dL_law_545 rfl (by decide) (fun _ => fin) (fun z => ?_)
  have hk0 := nI0_of hk4 z
  refine v_aload_n (n := 549) dL_law_548 rfl rfl ?_
  refine v_iconst (n := 550) (x := nI 0) dL_law_549 rfl rfl ?_
  refine v_lald (n := 551) (j := 0) (v := .long r.toInt64) dL_law_550 rfl hG zokc_35 (by decide) rfl rfl (by decide) (by show Value.long (ov μ1 μ2 35 0 0 0).toInt64 = _; rw [ov_ge (Or.inl rfl), hr hk0]) ?_
  refine v_iload (n := 553) dL_law_551 rfl rfl ?_
  refine v_i2l (n := 554) dL_law_553 rfl ?_
  rw [hrr hk0]
  refine v_lcmp (n := 555) dL_law_554 rfl ?_
  rw [lg_self]
  exact v_if_eq (n := 558) (t := 560) dL_law_555 rfl (by decide) (fun _ => by rw [hrr hk0] at fin; exact fin) (fun z => absurd rfl z)
theorem lc_piste (hG : G.2.2.2 = true) (hI : Inv μ W) (hi : i + 7 ≤ L) (hL : L ≤ 3584) (hW : W + 64 < 2 ^ 30) (hc : cells + 1 ≤ 603072) (hs : slots + 6 ≤ 7202922) (K : ∀ μ', Inv μ' (W + 64) → VW G hh b L xs 2576 (LB G b (nI i)) [] μ' (cells + 1) (slots + 6)) : VW G hh b L xs 563 (LB G b (nI i)) [] μ cells slots := by
  refine v_aload_n (n := 564) dL_law_563 rfl rfl ?_
  refine v_aload_n (n := 565) dL_law_564 rfl rfl ?_
  refine v_iload (n := 567) dL_law_565 rfl rfl ?_
  refine v_iconst (n := 568) (x := nI 1) dL_law_567 rfl rfl ?_
  refine v_iadd (n := 569) dL_law_568 rfl ?_
  refine l_sld (n := 570) (j := i + 1) dL_law_569 rfl (nI_add i 1) (by omega) hL ?_
  refine v_aload_n (n := 571) dL_law_570 rfl rfl ?_
  refine v_iload (n := 573) dL_law_571 rfl rfl ?_
  refine v_iconst (n := 574) (x := nI 2) dL_law_573 rfl rfl ?_
  refine v_iadd (n := 575) dL_law_574 rfl ?_
  refine l_sld (n := 576) (j := i + 2) dL_law_575 rfl (nI_add i 2) (by omega) hL ?_
  refine v_aload_n (n := 577) dL_law_576 rfl rfl ?_
  refine v_callH (n := 580) (As := [.ref (zad G.1 9 0 0), .int (xs (i + 1)), .int (xs (i + 2)), .ref (zad G.1 35 0 0)]) (rest := []) dL_law_577 rfl lk_L_168 rfl rfl (Nat.le_of_ble_eq_true rfl) ⟨Nat.le_of_ble_eq_true rfl, Nat.le_of_ble_eq_true rfl, hc, hs⟩ (lw_piste hG ((xs (i + 1))) ((xs (i + 2))) (op_piste (offG G) hI ((xs (i + 1))) ((xs (i + 2))))) (fun v μ1 hp => ?_) (fun _ _ hp => False.elim hp)
  obtain ⟨k, r, μ0, hk4, rfl, hlk, hm, hr⟩ := hp
  show VW _ _ _ _ _ _ _ [.int (nI k)] _ _ _
  refine v_istore (n := 582) (L' := [(0, .ref b), (1, .ref (zad G.1 9 0 0)), (2, .ref (zad G.1 10 0 0)), (3, .ref (zad G.1 35 0 0)), (4, .ref (zad G.1 36 0 0)), (5, .int (nI i)), (6, .int (nI k))]) dL_law_580 rfl (show 7 ≤ 9 by decide) rfl ?_
  refine v_aload_n (n := 583) dL_law_582 rfl rfl ?_
  refine v_aload_n (n := 584) dL_law_583 rfl rfl ?_
  refine v_iload (n := 586) dL_law_584 rfl rfl ?_
  refine v_iconst (n := 587) (x := nI 1) dL_law_586 rfl rfl ?_
  refine v_iadd (n := 588) dL_law_587 rfl ?_
  refine l_sld (n := 589) (j := i + 1) dL_law_588 rfl (nI_add i 1) (by omega) hL ?_
  refine v_aload_n (n := 590) dL_law_589 rfl rfl ?_
  refine v_iload (n := 592) dL_law_590 rfl rfl ?_
  refine v_iconst (n := 593) (x := nI 2) dL_law_592 rfl rfl ?_
  refine v_iadd (n := 594) dL_law_593 rfl ?_
  refine l_sld (n := 595) (j := i + 2) dL_law_594 rfl (nI_add i 2) (by omega) hL ?_
  refine v_callV0 (n := 598) (k := 10) (b := 0) (i := 0) (As := [.int (xs (i + 1)), .int (xs (i + 2))]) (rest := []) dL_law_595 rfl lk_L_170 rfl rfl (Nat.le_of_ble_eq_true rfl) ⟨Nat.le_of_ble_eq_true rfl, Nat.le_of_ble_eq_true rfl, hc, hs⟩ zokc_10 hlk hm (fun v μ2 hp => ?_) (fun _ _ hp => False.elim hp)
  obtain ⟨r', rfl, hI2, h6, hrr⟩ := hp
  have hI3 : Inv (ov μ1 μ2) (W + 64) := hI2.lk Lk.ovr
  have h63 : ov μ1 μ2 10 0 0 6 = nI k := (ov_lt (by decide)).trans h6
  show VW _ _ _ _ _ _ _ [.int r'] _ _ _
  refine v_istore (n := 600) (L' := [(0, .ref b), (1, .ref (zad G.1 9 0 0)), (2, .ref (zad G.1 10 0 0)), (3, .ref (zad G.1 35 0 0)), (4, .ref (zad G.1 36 0 0)), (5, .int (nI i)), (6, .int (nI k)), (7, .int r')]) dL_law_598 rfl (show 8 ≤ 9 by decide) rfl ?_
  refine v_aload_n (n := 601) dL_law_600 rfl rfl ?_
  refine v_callV (n := 604) (k := 10) (b := 0) (i := 0) (As := []) (rest := []) dL_law_601 rfl lk_L_153 rfl rfl (Nat.le_of_ble_eq_true rfl) ⟨Nat.le_of_ble_eq_true rfl, Nat.le_of_ble_eq_true rfl, hc, hs⟩ zokc_10 (wX8_thrown G (P := fun v μ9 => v = some (.int (nI k)) ∧ μ9 = ov μ1 μ2) (X := noX) (ov μ1 μ2) ⟨by rw [h63], rfl⟩) (fun v μ9 hp => ?_) (fun _ _ hp => False.elim hp)
  obtain ⟨rfl, rfl⟩ := hp
  show VW _ _ _ _ _ _ _ [.int (nI k)] _ _ _
  refine v_iload (n := 606) dL_law_604 rfl rfl ?_
  refine v_icmp_eq (n := 609) (t := 611) dL_law_606 rfl (by decide) (fun _ => ?_) (fun z => absurd rfl z)
  refine v_iload (n := 613) dL_law_611 rfl rfl ?_
  have fin : VW G hh b L xs 628 [(0, .ref b), (1, .ref (zad G.1 9 0 0)), (2, .ref (zad G.1 10 0 0)), (3, .ref (zad G.1 35 0 0)), (4, .ref (zad G.1 36 0 0)), (5, .int (nI i)), (6, .int (nI k)), (7, .int r')] [] (ov μ1 μ2) (cells + 1) (slots + 6) := v_goto (n := 2576) dL_law_628 (by decide) (v_pick [0, 1, 2, 3, 4, 5] rfl (K _ hI3))
  refine v_if_ne (n := 616) (t := 628) dL_law_613 rfl (by decide) (fun _ => fin) (fun z => ?_)
  have hk0 := nI0_of hk4 z
  refine v_aload_n (n := 617) dL_law_616 rfl rfl ?_
  refine v_iconst (n := 618) (x := nI 0) dL_law_617 rfl rfl ?_
  refine v_lald (n := 619) (j := 0) (v := .long r.toInt64) dL_law_618 rfl hG zokc_35 (by decide) rfl rfl (by decide) (by show Value.long (ov μ1 μ2 35 0 0 0).toInt64 = _; rw [ov_ge (Or.inl rfl), hr hk0]) ?_
  refine v_iload (n := 621) dL_law_619 rfl rfl ?_
  refine v_i2l (n := 622) dL_law_621 rfl ?_
  rw [hrr hk0]
  refine v_lcmp (n := 623) dL_law_622 rfl ?_
  rw [lg_self]
  exact v_if_eq (n := 626) (t := 628) dL_law_623 rfl (by decide) (fun _ => by rw [hrr hk0] at fin; exact fin) (fun z => absurd rfl z)
theorem lc_open (hG : G.2.2.2 = true) (hI : Inv μ W) (hi : i + 7 ≤ L) (hL : L ≤ 3584) (hW : W + 64 < 2 ^ 30) (hc : cells + 1 ≤ 603072) (hs : slots + 6 ≤ 7202922) (K : ∀ μ', Inv μ' (W + 64) → VW G hh b L xs 2576 (LB G b (nI i)) [] μ' (cells + 1) (slots + 6)) : VW G hh b L xs 631 (LB G b (nI i)) [] μ cells slots := by
  refine v_aload_n (n := 632) dL_law_631 rfl rfl ?_
  refine v_aload_n (n := 633) dL_law_632 rfl rfl ?_
  refine v_iload (n := 635) dL_law_633 rfl rfl ?_
  refine v_iconst (n := 636) (x := nI 1) dL_law_635 rfl rfl ?_
  refine v_iadd (n := 637) dL_law_636 rfl ?_
  refine l_sld (n := 638) (j := i + 1) dL_law_637 rfl (nI_add i 1) (by omega) hL ?_
  refine v_aload_n (n := 639) dL_law_638 rfl rfl ?_
  refine v_iload (n := 641) dL_law_639 rfl rfl ?_
  refine v_iconst (n := 642) (x := nI 2) dL_law_641 rfl rfl ?_
  refine v_iadd (n := 643) dL_law_642 rfl ?_
  refine l_sld (n := 644) (j := i + 2) dL_law_643 rfl (nI_add i 2) (by omega) hL ?_
  refine l_bool (pc := 644) dL_law_644 dL_law_647 dL_law_648 dL_law_651 ?_
  refine v_aload_n (n := 653) dL_law_652 rfl rfl ?_
  refine v_callH (n := 656) (As := [.ref (zad G.1 9 0 0), .int (xs (i + 1)), .int (bI (decide (¬ xs (i + 2) = 0))), .ref (zad G.1 35 0 0)]) (rest := []) dL_law_653 rfl lk_L_171 rfl rfl (Nat.le_of_ble_eq_true rfl) ⟨Nat.le_of_ble_eq_true rfl, Nat.le_of_ble_eq_true rfl, hc, hs⟩ (lw_open hG ((xs (i + 1))) ((bI (decide (¬ xs (i + 2) = 0)))) (op_open (offG G) hI ((xs (i + 1))) ((decide (¬ xs (i + 2) = 0))))) (fun v μ1 hp => ?_) (fun _ _ hp => False.elim hp)
  obtain ⟨k, r, μ0, hk4, rfl, hlk, hm, hr⟩ := hp
  show VW _ _ _ _ _ _ _ [.int (nI k)] _ _ _
  refine v_istore (n := 658) (L' := [(0, .ref b), (1, .ref (zad G.1 9 0 0)), (2, .ref (zad G.1 10 0 0)), (3, .ref (zad G.1 35 0 0)), (4, .ref (zad G.1 36 0 0)), (5, .int (nI i)), (6, .int (nI k))]) dL_law_656 rfl (show 7 ≤ 9 by decide) rfl ?_
  refine v_aload_n (n := 659) dL_law_658 rfl rfl ?_
  refine v_aload_n (n := 660) dL_law_659 rfl rfl ?_
  refine v_iload (n := 662) dL_law_660 rfl rfl ?_
  refine v_iconst (n := 663) (x := nI 1) dL_law_662 rfl rfl ?_
  refine v_iadd (n := 664) dL_law_663 rfl ?_
  refine l_sld (n := 665) (j := i + 1) dL_law_664 rfl (nI_add i 1) (by omega) hL ?_
  refine v_aload_n (n := 666) dL_law_665 rfl rfl ?_
  refine v_iload (n := 668) dL_law_666 rfl rfl ?_
  refine v_iconst (n := 669) (x := nI 2) dL_law_668 rfl rfl ?_
  refine v_iadd (n := 670) dL_law_669 rfl ?_
  refine l_sld (n := 671) (j := i + 2) dL_law_670 rfl (nI_add i 2) (by omega) hL ?_
  refine l_bool (pc := 671) dL_law_671 dL_law_674 dL_law_675 dL_law_678 ?_
  refine v_callV0 (n := 682) (k := 10) (b := 0) (i := 0) (As := [.int (xs (i + 1)), .int (bI (decide (¬ xs (i + 2) = 0)))]) (rest := []) dL_law_679 rfl lk_L_174 rfl rfl (Nat.le_of_ble_eq_true rfl) ⟨Nat.le_of_ble_eq_true rfl, Nat.le_of_ble_eq_true rfl, hc, hs⟩ zokc_10 hlk hm (fun v μ2 hp => ?_) (fun _ _ hp => False.elim hp)
  obtain ⟨r', rfl, hI2, h6, hrr⟩ := hp
  have hI3 : Inv (ov μ1 μ2) (W + 64) := hI2.lk Lk.ovr
  have h63 : ov μ1 μ2 10 0 0 6 = nI k := (ov_lt (by decide)).trans h6
  show VW _ _ _ _ _ _ _ [.int r'] _ _ _
  refine v_istore (n := 684) (L' := [(0, .ref b), (1, .ref (zad G.1 9 0 0)), (2, .ref (zad G.1 10 0 0)), (3, .ref (zad G.1 35 0 0)), (4, .ref (zad G.1 36 0 0)), (5, .int (nI i)), (6, .int (nI k)), (7, .int r')]) dL_law_682 rfl (show 8 ≤ 9 by decide) rfl ?_
  refine v_aload_n (n := 685) dL_law_684 rfl rfl ?_
  refine v_callV (n := 688) (k := 10) (b := 0) (i := 0) (As := []) (rest := []) dL_law_685 rfl lk_L_153 rfl rfl (Nat.le_of_ble_eq_true rfl) ⟨Nat.le_of_ble_eq_true rfl, Nat.le_of_ble_eq_true rfl, hc, hs⟩ zokc_10 (wX8_thrown G (P := fun v μ9 => v = some (.int (nI k)) ∧ μ9 = ov μ1 μ2) (X := noX) (ov μ1 μ2) ⟨by rw [h63], rfl⟩) (fun v μ9 hp => ?_) (fun _ _ hp => False.elim hp)
  obtain ⟨rfl, rfl⟩ := hp
  show VW _ _ _ _ _ _ _ [.int (nI k)] _ _ _
  refine v_iload (n := 690) dL_law_688 rfl rfl ?_
  refine v_icmp_eq (n := 693) (t := 695) dL_law_690 rfl (by decide) (fun _ => ?_) (fun z => absurd rfl z)
  refine v_iload (n := 697) dL_law_695 rfl rfl ?_
  have fin : VW G hh b L xs 712 [(0, .ref b), (1, .ref (zad G.1 9 0 0)), (2, .ref (zad G.1 10 0 0)), (3, .ref (zad G.1 35 0 0)), (4, .ref (zad G.1 36 0 0)), (5, .int (nI i)), (6, .int (nI k)), (7, .int r')] [] (ov μ1 μ2) (cells + 1) (slots + 6) := v_goto (n := 2576) dL_law_712 (by decide) (v_pick [0, 1, 2, 3, 4, 5] rfl (K _ hI3))
  refine v_if_ne (n := 700) (t := 712) dL_law_697 rfl (by decide) (fun _ => fin) (fun z => ?_)
  have hk0 := nI0_of hk4 z
  refine v_aload_n (n := 701) dL_law_700 rfl rfl ?_
  refine v_iconst (n := 702) (x := nI 0) dL_law_701 rfl rfl ?_
  refine v_lald (n := 703) (j := 0) (v := .long r.toInt64) dL_law_702 rfl hG zokc_35 (by decide) rfl rfl (by decide) (by show Value.long (ov μ1 μ2 35 0 0 0).toInt64 = _; rw [ov_ge (Or.inl rfl), hr hk0]) ?_
  refine v_iload (n := 705) dL_law_703 rfl rfl ?_
  refine v_i2l (n := 706) dL_law_705 rfl ?_
  rw [hrr hk0]
  refine v_lcmp (n := 707) dL_law_706 rfl ?_
  rw [lg_self]
  exact v_if_eq (n := 710) (t := 712) dL_law_707 rfl (by decide) (fun _ => by rw [hrr hk0] at fin; exact fin) (fun z => absurd rfl z)
theorem lc_groom (hG : G.2.2.2 = true) (hI : Inv μ W) (hi : i + 7 ≤ L) (hL : L ≤ 3584) (hW : W + 64 < 2 ^ 30) (hc : cells + 1 ≤ 603072) (hs : slots + 6 ≤ 7202922) (K : ∀ μ', Inv μ' (W + 64) → VW G hh b L xs 2576 (LB G b (nI i)) [] μ' (cells + 1) (slots + 6)) : VW G hh b L xs 715 (LB G b (nI i)) [] μ cells slots := by
  refine v_aload_n (n := 716) dL_law_715 rfl rfl ?_
  refine v_aload_n (n := 717) dL_law_716 rfl rfl ?_
  refine v_iload (n := 719) dL_law_717 rfl rfl ?_
  refine v_iconst (n := 720) (x := nI 1) dL_law_719 rfl rfl ?_
  refine v_iadd (n := 721) dL_law_720 rfl ?_
  refine l_sld (n := 722) (j := i + 1) dL_law_721 rfl (nI_add i 1) (by omega) hL ?_
  refine v_aload_n (n := 723) dL_law_722 rfl rfl ?_
  refine v_callH (n := 726) (As := [.ref (zad G.1 9 0 0), .int (xs (i + 1)), .ref (zad G.1 35 0 0)]) (rest := []) dL_law_723 rfl lk_L_175 rfl rfl (Nat.le_of_ble_eq_true rfl) ⟨Nat.le_of_ble_eq_true rfl, Nat.le_of_ble_eq_true rfl, hc, hs⟩ (lw_groom hG ((xs (i + 1))) (op_groom (offG G) hI (by omega) ((xs (i + 1))))) (fun v μ1 hp => ?_) (fun _ _ hp => False.elim hp)
  obtain ⟨k, r, μ0, hk4, rfl, hlk, hm, hr⟩ := hp
  show VW _ _ _ _ _ _ _ [.int (nI k)] _ _ _
  refine v_istore (n := 728) (L' := [(0, .ref b), (1, .ref (zad G.1 9 0 0)), (2, .ref (zad G.1 10 0 0)), (3, .ref (zad G.1 35 0 0)), (4, .ref (zad G.1 36 0 0)), (5, .int (nI i)), (6, .int (nI k))]) dL_law_726 rfl (show 7 ≤ 9 by decide) rfl ?_
  refine v_aload_n (n := 729) dL_law_728 rfl rfl ?_
  refine v_aload_n (n := 730) dL_law_729 rfl rfl ?_
  refine v_iload (n := 732) dL_law_730 rfl rfl ?_
  refine v_iconst (n := 733) (x := nI 1) dL_law_732 rfl rfl ?_
  refine v_iadd (n := 734) dL_law_733 rfl ?_
  refine l_sld (n := 735) (j := i + 1) dL_law_734 rfl (nI_add i 1) (by omega) hL ?_
  refine v_callV0 (n := 738) (k := 10) (b := 0) (i := 0) (As := [.int (xs (i + 1))]) (rest := []) dL_law_735 rfl lk_L_177 rfl rfl (Nat.le_of_ble_eq_true rfl) ⟨Nat.le_of_ble_eq_true rfl, Nat.le_of_ble_eq_true rfl, hc, hs⟩ zokc_10 hlk hm (fun v μ2 hp => ?_) (fun _ _ hp => False.elim hp)
  obtain ⟨r', rfl, hI2, h6, hrr⟩ := hp
  have hI3 : Inv (ov μ1 μ2) (W + 64) := hI2.lk Lk.ovr
  have h63 : ov μ1 μ2 10 0 0 6 = nI k := (ov_lt (by decide)).trans h6
  show VW _ _ _ _ _ _ _ [.int r'] _ _ _
  refine v_istore (n := 740) (L' := [(0, .ref b), (1, .ref (zad G.1 9 0 0)), (2, .ref (zad G.1 10 0 0)), (3, .ref (zad G.1 35 0 0)), (4, .ref (zad G.1 36 0 0)), (5, .int (nI i)), (6, .int (nI k)), (7, .int r')]) dL_law_738 rfl (show 8 ≤ 9 by decide) rfl ?_
  refine v_aload_n (n := 741) dL_law_740 rfl rfl ?_
  refine v_callV (n := 744) (k := 10) (b := 0) (i := 0) (As := []) (rest := []) dL_law_741 rfl lk_L_153 rfl rfl (Nat.le_of_ble_eq_true rfl) ⟨Nat.le_of_ble_eq_true rfl, Nat.le_of_ble_eq_true rfl, hc, hs⟩ zokc_10 (wX8_thrown G (P := fun v μ9 => v = some (.int (nI k)) ∧ μ9 = ov μ1 μ2) (X := noX) (ov μ1 μ2) ⟨by rw [h63], rfl⟩) (fun v μ9 hp => ?_) (fun _ _ hp => False.elim hp)
  obtain ⟨rfl, rfl⟩ := hp
  show VW _ _ _ _ _ _ _ [.int (nI k)] _ _ _
  refine v_iload (n := 746) dL_law_744 rfl rfl ?_
  refine v_icmp_eq (n := 749) (t := 751) dL_law_746 rfl (by decide) (fun _ => ?_) (fun z => absurd rfl z)
  refine v_iload (n := 753) dL_law_751 rfl rfl ?_
  have fin : VW G hh b L xs 768 [(0, .ref b), (1, .ref (zad G.1 9 0 0)), (2, .ref (zad G.1 10 0 0)), (3, .ref (zad G.1 35 0 0)), (4, .ref (zad G.1 36 0 0)), (5, .int (nI i)), (6, .int (nI k)), (7, .int r')] [] (ov μ1 μ2) (cells + 1) (slots + 6) := v_goto (n := 2576) dL_law_768 (by decide) (v_pick [0, 1, 2, 3, 4, 5] rfl (K _ hI3))
  refine v_if_ne (n := 756) (t := 768) dL_law_753 rfl (by decide) (fun _ => fin) (fun z => ?_)
  have hk0 := nI0_of hk4 z
  refine v_aload_n (n := 757) dL_law_756 rfl rfl ?_
  refine v_iconst (n := 758) (x := nI 0) dL_law_757 rfl rfl ?_
  refine v_lald (n := 759) (j := 0) (v := .long r.toInt64) dL_law_758 rfl hG zokc_35 (by decide) rfl rfl (by decide) (by show Value.long (ov μ1 μ2 35 0 0 0).toInt64 = _; rw [ov_ge (Or.inl rfl), hr hk0]) ?_
  refine v_iload (n := 761) dL_law_759 rfl rfl ?_
  refine v_i2l (n := 762) dL_law_761 rfl ?_
  rw [hrr hk0]
  refine v_lcmp (n := 763) dL_law_762 rfl ?_
  rw [lg_self]
  exact v_if_eq (n := 766) (t := 768) dL_law_763 rfl (by decide) (fun _ => by rw [hrr hk0] at fin; exact fin) (fun z => absurd rfl z)
theorem lc_count (hG : G.2.2.2 = true) (hI : Inv μ W) (hi : i + 7 ≤ L) (hL : L ≤ 3584) (hW : W + 64 < 2 ^ 30) (hc : cells + 1 ≤ 603072) (hs : slots + 6 ≤ 7202922) (K : ∀ μ', Inv μ' (W + 64) → VW G hh b L xs 2576 (LB G b (nI i)) [] μ' (cells + 1) (slots + 6)) : VW G hh b L xs 771 (LB G b (nI i)) [] μ cells slots := by
  refine v_aload_n (n := 772) dL_law_771 rfl rfl ?_
  refine v_aload_n (n := 773) dL_law_772 rfl rfl ?_
  refine v_iload (n := 775) dL_law_773 rfl rfl ?_
  refine v_iconst (n := 776) (x := nI 1) dL_law_775 rfl rfl ?_
  refine v_iadd (n := 777) dL_law_776 rfl ?_
  refine l_sld (n := 778) (j := i + 1) dL_law_777 rfl (nI_add i 1) (by omega) hL ?_
  refine v_aload_n (n := 779) dL_law_778 rfl rfl ?_
  refine v_callH (n := 782) (As := [.ref (zad G.1 9 0 0), .int (xs (i + 1)), .ref (zad G.1 35 0 0)]) (rest := []) dL_law_779 rfl lk_L_178 rfl rfl (Nat.le_of_ble_eq_true rfl) ⟨Nat.le_of_ble_eq_true rfl, Nat.le_of_ble_eq_true rfl, hc, hs⟩ (lw_count hG ((xs (i + 1))) (op_count (offG G) hI ((xs (i + 1))))) (fun v μ1 hp => ?_) (fun _ _ hp => False.elim hp)
  obtain ⟨k, r, μ0, hk4, rfl, hlk, hm, hr⟩ := hp
  show VW _ _ _ _ _ _ _ [.int (nI k)] _ _ _
  refine v_istore (n := 784) (L' := [(0, .ref b), (1, .ref (zad G.1 9 0 0)), (2, .ref (zad G.1 10 0 0)), (3, .ref (zad G.1 35 0 0)), (4, .ref (zad G.1 36 0 0)), (5, .int (nI i)), (6, .int (nI k))]) dL_law_782 rfl (show 7 ≤ 9 by decide) rfl ?_
  refine v_aload_n (n := 785) dL_law_784 rfl rfl ?_
  refine v_aload_n (n := 786) dL_law_785 rfl rfl ?_
  refine v_iload (n := 788) dL_law_786 rfl rfl ?_
  refine v_iconst (n := 789) (x := nI 1) dL_law_788 rfl rfl ?_
  refine v_iadd (n := 790) dL_law_789 rfl ?_
  refine l_sld (n := 791) (j := i + 1) dL_law_790 rfl (nI_add i 1) (by omega) hL ?_
  refine v_callV0 (n := 794) (k := 10) (b := 0) (i := 0) (As := [.int (xs (i + 1))]) (rest := []) dL_law_791 rfl lk_L_180 rfl rfl (Nat.le_of_ble_eq_true rfl) ⟨Nat.le_of_ble_eq_true rfl, Nat.le_of_ble_eq_true rfl, hc, hs⟩ zokc_10 hlk hm (fun v μ2 hp => ?_) (fun _ _ hp => False.elim hp)
  obtain ⟨r', rfl, hI2, h6, hrr⟩ := hp
  have hI3 : Inv (ov μ1 μ2) (W + 64) := hI2.lk Lk.ovr
  have h63 : ov μ1 μ2 10 0 0 6 = nI k := (ov_lt (by decide)).trans h6
  show VW _ _ _ _ _ _ _ [.int r'] _ _ _
  refine v_istore (n := 796) (L' := [(0, .ref b), (1, .ref (zad G.1 9 0 0)), (2, .ref (zad G.1 10 0 0)), (3, .ref (zad G.1 35 0 0)), (4, .ref (zad G.1 36 0 0)), (5, .int (nI i)), (6, .int (nI k)), (7, .int r')]) dL_law_794 rfl (show 8 ≤ 9 by decide) rfl ?_
  refine v_aload_n (n := 797) dL_law_796 rfl rfl ?_
  refine v_callV (n := 800) (k := 10) (b := 0) (i := 0) (As := []) (rest := []) dL_law_797 rfl lk_L_153 rfl rfl (Nat.le_of_ble_eq_true rfl) ⟨Nat.le_of_ble_eq_true rfl, Nat.le_of_ble_eq_true rfl, hc, hs⟩ zokc_10 (wX8_thrown G (P := fun v μ9 => v = some (.int (nI k)) ∧ μ9 = ov μ1 μ2) (X := noX) (ov μ1 μ2) ⟨by rw [h63], rfl⟩) (fun v μ9 hp => ?_) (fun _ _ hp => False.elim hp)
  obtain ⟨rfl, rfl⟩ := hp
  show VW _ _ _ _ _ _ _ [.int (nI k)] _ _ _
  refine v_iload (n := 802) dL_law_800 rfl rfl ?_
  refine v_icmp_eq (n := 805) (t := 807) dL_law_802 rfl (by decide) (fun _ => ?_) (fun z => absurd rfl z)
  refine v_iload (n := 809) dL_law_807 rfl rfl ?_
  have fin : VW G hh b L xs 824 [(0, .ref b), (1, .ref (zad G.1 9 0 0)), (2, .ref (zad G.1 10 0 0)), (3, .ref (zad G.1 35 0 0)), (4, .ref (zad G.1 36 0 0)), (5, .int (nI i)), (6, .int (nI k)), (7, .int r')] [] (ov μ1 μ2) (cells + 1) (slots + 6) := v_goto (n := 2576) dL_law_824 (by decide) (v_pick [0, 1, 2, 3, 4, 5] rfl (K _ hI3))
  refine v_if_ne (n := 812) (t := 824) dL_law_809 rfl (by decide) (fun _ => fin) (fun z => ?_)
  have hk0 := nI0_of hk4 z
  refine v_aload_n (n := 813) dL_law_812 rfl rfl ?_
  refine v_iconst (n := 814) (x := nI 0) dL_law_813 rfl rfl ?_
  refine v_lald (n := 815) (j := 0) (v := .long r.toInt64) dL_law_814 rfl hG zokc_35 (by decide) rfl rfl (by decide) (by show Value.long (ov μ1 μ2 35 0 0 0).toInt64 = _; rw [ov_ge (Or.inl rfl), hr hk0]) ?_
  refine v_iload (n := 817) dL_law_815 rfl rfl ?_
  refine v_i2l (n := 818) dL_law_817 rfl ?_
  rw [hrr hk0]
  refine v_lcmp (n := 819) dL_law_818 rfl ?_
  rw [lg_self]
  exact v_if_eq (n := 822) (t := 824) dL_law_819 rfl (by decide) (fun _ => by rw [hrr hk0] at fin; exact fin) (fun z => absurd rfl z)
theorem lc_addGuest (hG : G.2.2.2 = true) (hI : Inv μ W) (hi : i + 7 ≤ L) (hL : L ≤ 3584) (hW : W + 64 < 2 ^ 30) (hc : cells + 1 ≤ 603072) (hs : slots + 6 ≤ 7202922) (K : ∀ μ', Inv μ' (W + 64) → VW G hh b L xs 2576 (LB G b (nI i)) [] μ' (cells + 1) (slots + 6)) : VW G hh b L xs 827 (LB G b (nI i)) [] μ cells slots := by
  refine v_aload_n (n := 828) dL_law_827 rfl rfl ?_
  refine v_aload_n (n := 829) dL_law_828 rfl rfl ?_
  refine v_iload (n := 831) dL_law_829 rfl rfl ?_
  refine v_iconst (n := 832) (x := nI 1) dL_law_831 rfl rfl ?_
  refine v_iadd (n := 833) dL_law_832 rfl ?_
  refine l_sld (n := 834) (j := i + 1) dL_law_833 rfl (nI_add i 1) (by omega) hL ?_
  refine v_aload_n (n := 835) dL_law_834 rfl rfl ?_
  refine v_iload (n := 837) dL_law_835 rfl rfl ?_
  refine v_iconst (n := 838) (x := nI 2) dL_law_837 rfl rfl ?_
  refine v_iadd (n := 839) dL_law_838 rfl ?_
  refine l_sld (n := 840) (j := i + 2) dL_law_839 rfl (nI_add i 2) (by omega) hL ?_
  refine v_aload_n (n := 841) dL_law_840 rfl rfl ?_
  refine v_iload (n := 843) dL_law_841 rfl rfl ?_
  refine v_iconst (n := 844) (x := nI 3) dL_law_843 rfl rfl ?_
  refine v_iadd (n := 845) dL_law_844 rfl ?_
  refine l_sld (n := 846) (j := i + 3) dL_law_845 rfl (nI_add i 3) (by omega) hL ?_
  refine v_aload_n (n := 847) dL_law_846 rfl rfl ?_
  refine v_iload (n := 849) dL_law_847 rfl rfl ?_
  refine v_iconst (n := 850) (x := nI 4) dL_law_849 rfl rfl ?_
  refine v_iadd (n := 851) dL_law_850 rfl ?_
  refine l_sld (n := 852) (j := i + 4) dL_law_851 rfl (nI_add i 4) (by omega) hL ?_
  refine v_aload_n (n := 853) dL_law_852 rfl rfl ?_
  refine v_iload (n := 855) dL_law_853 rfl rfl ?_
  refine v_iconst (n := 856) (x := nI 5) dL_law_855 rfl rfl ?_
  refine v_iadd (n := 857) dL_law_856 rfl ?_
  refine l_sld (n := 858) (j := i + 5) dL_law_857 rfl (nI_add i 5) (by omega) hL ?_
  refine v_aload_n (n := 859) dL_law_858 rfl rfl ?_
  refine v_callH (n := 862) (As := [.ref (zad G.1 9 0 0), .int (xs (i + 1)), .int (xs (i + 2)), .int (xs (i + 3)), .int (xs (i + 4)), .int (xs (i + 5)), .ref (zad G.1 35 0 0)]) (rest := []) dL_law_859 rfl lk_L_181 rfl rfl (Nat.le_of_ble_eq_true rfl) ⟨Nat.le_of_ble_eq_true rfl, Nat.le_of_ble_eq_true rfl, hc, hs⟩ (lw_addGuest hG ((xs (i + 1))) ((xs (i + 2))) ((xs (i + 3))) ((xs (i + 4))) ((xs (i + 5))) (op_addGuest (offG G) hI ((xs (i + 1))) ((xs (i + 2))) ((xs (i + 3))) ((xs (i + 4))) ((xs (i + 5))))) (fun v μ1 hp => ?_) (fun _ _ hp => False.elim hp)
  obtain ⟨k, r, μ0, hk4, rfl, hlk, hm, hr⟩ := hp
  show VW _ _ _ _ _ _ _ [.int (nI k)] _ _ _
  refine v_istore (n := 864) (L' := [(0, .ref b), (1, .ref (zad G.1 9 0 0)), (2, .ref (zad G.1 10 0 0)), (3, .ref (zad G.1 35 0 0)), (4, .ref (zad G.1 36 0 0)), (5, .int (nI i)), (6, .int (nI k))]) dL_law_862 rfl (show 7 ≤ 9 by decide) rfl ?_
  refine v_aload_n (n := 865) dL_law_864 rfl rfl ?_
  refine v_aload_n (n := 866) dL_law_865 rfl rfl ?_
  refine v_iload (n := 868) dL_law_866 rfl rfl ?_
  refine v_iconst (n := 869) (x := nI 1) dL_law_868 rfl rfl ?_
  refine v_iadd (n := 870) dL_law_869 rfl ?_
  refine l_sld (n := 871) (j := i + 1) dL_law_870 rfl (nI_add i 1) (by omega) hL ?_
  refine v_aload_n (n := 872) dL_law_871 rfl rfl ?_
  refine v_iload (n := 874) dL_law_872 rfl rfl ?_
  refine v_iconst (n := 875) (x := nI 2) dL_law_874 rfl rfl ?_
  refine v_iadd (n := 876) dL_law_875 rfl ?_
  refine l_sld (n := 877) (j := i + 2) dL_law_876 rfl (nI_add i 2) (by omega) hL ?_
  refine v_aload_n (n := 878) dL_law_877 rfl rfl ?_
  refine v_iload (n := 880) dL_law_878 rfl rfl ?_
  refine v_iconst (n := 881) (x := nI 3) dL_law_880 rfl rfl ?_
  refine v_iadd (n := 882) dL_law_881 rfl ?_
  refine l_sld (n := 883) (j := i + 3) dL_law_882 rfl (nI_add i 3) (by omega) hL ?_
  refine v_aload_n (n := 884) dL_law_883 rfl rfl ?_
  refine v_iload (n := 886) dL_law_884 rfl rfl ?_
  refine v_iconst (n := 887) (x := nI 4) dL_law_886 rfl rfl ?_
  refine v_iadd (n := 888) dL_law_887 rfl ?_
  refine l_sld (n := 889) (j := i + 4) dL_law_888 rfl (nI_add i 4) (by omega) hL ?_
  refine v_aload_n (n := 890) dL_law_889 rfl rfl ?_
  refine v_iload (n := 892) dL_law_890 rfl rfl ?_
  refine v_iconst (n := 893) (x := nI 5) dL_law_892 rfl rfl ?_
  refine v_iadd (n := 894) dL_law_893 rfl ?_
  refine l_sld (n := 895) (j := i + 5) dL_law_894 rfl (nI_add i 5) (by omega) hL ?_
  refine v_callV0 (n := 898) (k := 10) (b := 0) (i := 0) (As := [.int (xs (i + 1)), .int (xs (i + 2)), .int (xs (i + 3)), .int (xs (i + 4)), .int (xs (i + 5))]) (rest := []) dL_law_895 rfl lk_L_184 rfl rfl (Nat.le_of_ble_eq_true rfl) ⟨Nat.le_of_ble_eq_true rfl, Nat.le_of_ble_eq_true rfl, hc, hs⟩ zokc_10 hlk hm (fun v μ2 hp => ?_) (fun _ _ hp => False.elim hp)
  obtain ⟨r', rfl, hI2, h6, hrr⟩ := hp
  have hI3 : Inv (ov μ1 μ2) (W + 64) := hI2.lk Lk.ovr
  have h63 : ov μ1 μ2 10 0 0 6 = nI k := (ov_lt (by decide)).trans h6
  show VW _ _ _ _ _ _ _ [.int r'] _ _ _
  refine v_istore (n := 900) (L' := [(0, .ref b), (1, .ref (zad G.1 9 0 0)), (2, .ref (zad G.1 10 0 0)), (3, .ref (zad G.1 35 0 0)), (4, .ref (zad G.1 36 0 0)), (5, .int (nI i)), (6, .int (nI k)), (7, .int r')]) dL_law_898 rfl (show 8 ≤ 9 by decide) rfl ?_
  refine v_aload_n (n := 901) dL_law_900 rfl rfl ?_
  refine v_callV (n := 904) (k := 10) (b := 0) (i := 0) (As := []) (rest := []) dL_law_901 rfl lk_L_153 rfl rfl (Nat.le_of_ble_eq_true rfl) ⟨Nat.le_of_ble_eq_true rfl, Nat.le_of_ble_eq_true rfl, hc, hs⟩ zokc_10 (wX8_thrown G (P := fun v μ9 => v = some (.int (nI k)) ∧ μ9 = ov μ1 μ2) (X := noX) (ov μ1 μ2) ⟨by rw [h63], rfl⟩) (fun v μ9 hp => ?_) (fun _ _ hp => False.elim hp)
  obtain ⟨rfl, rfl⟩ := hp
  show VW _ _ _ _ _ _ _ [.int (nI k)] _ _ _
  refine v_iload (n := 906) dL_law_904 rfl rfl ?_
  refine v_icmp_eq (n := 909) (t := 911) dL_law_906 rfl (by decide) (fun _ => ?_) (fun z => absurd rfl z)
  refine v_iload (n := 913) dL_law_911 rfl rfl ?_
  have fin : VW G hh b L xs 928 [(0, .ref b), (1, .ref (zad G.1 9 0 0)), (2, .ref (zad G.1 10 0 0)), (3, .ref (zad G.1 35 0 0)), (4, .ref (zad G.1 36 0 0)), (5, .int (nI i)), (6, .int (nI k)), (7, .int r')] [] (ov μ1 μ2) (cells + 1) (slots + 6) := v_goto (n := 2576) dL_law_928 (by decide) (v_pick [0, 1, 2, 3, 4, 5] rfl (K _ hI3))
  refine v_if_ne (n := 916) (t := 928) dL_law_913 rfl (by decide) (fun _ => fin) (fun z => ?_)
  have hk0 := nI0_of hk4 z
  refine v_aload_n (n := 917) dL_law_916 rfl rfl ?_
  refine v_iconst (n := 918) (x := nI 0) dL_law_917 rfl rfl ?_
  refine v_lald (n := 919) (j := 0) (v := .long r.toInt64) dL_law_918 rfl hG zokc_35 (by decide) rfl rfl (by decide) (by show Value.long (ov μ1 μ2 35 0 0 0).toInt64 = _; rw [ov_ge (Or.inl rfl), hr hk0]) ?_
  refine v_iload (n := 921) dL_law_919 rfl rfl ?_
  refine v_i2l (n := 922) dL_law_921 rfl ?_
  rw [hrr hk0]
  refine v_lcmp (n := 923) dL_law_922 rfl ?_
  rw [lg_self]
  exact v_if_eq (n := 926) (t := 928) dL_law_923 rfl (by decide) (fun _ => by rw [hrr hk0] at fin; exact fin) (fun z => absurd rfl z)
theorem lc_guest (hG : G.2.2.2 = true) (hI : Inv μ W) (hi : i + 7 ≤ L) (hL : L ≤ 3584) (hW : W + 64 < 2 ^ 30) (hc : cells + 1 ≤ 603072) (hs : slots + 6 ≤ 7202922) (K : ∀ μ', Inv μ' (W + 64) → VW G hh b L xs 2576 (LB G b (nI i)) [] μ' (cells + 1) (slots + 6)) : VW G hh b L xs 931 (LB G b (nI i)) [] μ cells slots := by
  refine v_aload_n (n := 932) dL_law_931 rfl rfl ?_
  refine v_aload_n (n := 933) dL_law_932 rfl rfl ?_
  refine v_iload (n := 935) dL_law_933 rfl rfl ?_
  refine v_iconst (n := 936) (x := nI 1) dL_law_935 rfl rfl ?_
  refine v_iadd (n := 937) dL_law_936 rfl ?_
  refine l_sld (n := 938) (j := i + 1) dL_law_937 rfl (nI_add i 1) (by omega) hL ?_
  refine v_aload_n (n := 939) dL_law_938 rfl rfl ?_
  refine v_iload (n := 941) dL_law_939 rfl rfl ?_
  refine v_iconst (n := 942) (x := nI 2) dL_law_941 rfl rfl ?_
  refine v_iadd (n := 943) dL_law_942 rfl ?_
  refine l_sld (n := 944) (j := i + 2) dL_law_943 rfl (nI_add i 2) (by omega) hL ?_
  refine v_aload_n (n := 945) dL_law_944 rfl rfl ?_
  refine v_callH (n := 948) (As := [.ref (zad G.1 9 0 0), .int (xs (i + 1)), .int (xs (i + 2)), .ref (zad G.1 35 0 0)]) (rest := []) dL_law_945 rfl lk_L_185 rfl rfl (Nat.le_of_ble_eq_true rfl) ⟨Nat.le_of_ble_eq_true rfl, Nat.le_of_ble_eq_true rfl, hc, hs⟩ (lw_guest hG ((xs (i + 1))) ((xs (i + 2))) (op_guest (offG G) hI ((xs (i + 1))) ((xs (i + 2))))) (fun v μ1 hp => ?_) (fun _ _ hp => False.elim hp)
  obtain ⟨k, r, μ0, hk4, rfl, hlk, hm, hr⟩ := hp
  show VW _ _ _ _ _ _ _ [.int (nI k)] _ _ _
  refine v_istore (n := 950) (L' := [(0, .ref b), (1, .ref (zad G.1 9 0 0)), (2, .ref (zad G.1 10 0 0)), (3, .ref (zad G.1 35 0 0)), (4, .ref (zad G.1 36 0 0)), (5, .int (nI i)), (6, .int (nI k))]) dL_law_948 rfl (show 7 ≤ 9 by decide) rfl ?_
  refine v_aload_n (n := 951) dL_law_950 rfl rfl ?_
  refine v_aload_n (n := 952) dL_law_951 rfl rfl ?_
  refine v_iload (n := 954) dL_law_952 rfl rfl ?_
  refine v_iconst (n := 955) (x := nI 1) dL_law_954 rfl rfl ?_
  refine v_iadd (n := 956) dL_law_955 rfl ?_
  refine l_sld (n := 957) (j := i + 1) dL_law_956 rfl (nI_add i 1) (by omega) hL ?_
  refine v_aload_n (n := 958) dL_law_957 rfl rfl ?_
  refine v_iload (n := 960) dL_law_958 rfl rfl ?_
  refine v_iconst (n := 961) (x := nI 2) dL_law_960 rfl rfl ?_
  refine v_iadd (n := 962) dL_law_961 rfl ?_
  refine l_sld (n := 963) (j := i + 2) dL_law_962 rfl (nI_add i 2) (by omega) hL ?_
  refine v_callV0 (n := 966) (k := 10) (b := 0) (i := 0) (As := [.int (xs (i + 1)), .int (xs (i + 2))]) (rest := []) dL_law_963 rfl lk_L_187 rfl rfl (Nat.le_of_ble_eq_true rfl) ⟨Nat.le_of_ble_eq_true rfl, Nat.le_of_ble_eq_true rfl, hc, hs⟩ zokc_10 hlk hm (fun v μ2 hp => ?_) (fun _ _ hp => False.elim hp)
  obtain ⟨r', rfl, hI2, h6, hrr⟩ := hp
  have hI3 : Inv (ov μ1 μ2) (W + 64) := hI2.lk Lk.ovr
  have h63 : ov μ1 μ2 10 0 0 6 = nI k := (ov_lt (by decide)).trans h6
  show VW _ _ _ _ _ _ _ [.int r'] _ _ _
  refine v_istore (n := 968) (L' := [(0, .ref b), (1, .ref (zad G.1 9 0 0)), (2, .ref (zad G.1 10 0 0)), (3, .ref (zad G.1 35 0 0)), (4, .ref (zad G.1 36 0 0)), (5, .int (nI i)), (6, .int (nI k)), (7, .int r')]) dL_law_966 rfl (show 8 ≤ 9 by decide) rfl ?_
  refine v_aload_n (n := 969) dL_law_968 rfl rfl ?_
  refine v_callV (n := 972) (k := 10) (b := 0) (i := 0) (As := []) (rest := []) dL_law_969 rfl lk_L_153 rfl rfl (Nat.le_of_ble_eq_true rfl) ⟨Nat.le_of_ble_eq_true rfl, Nat.le_of_ble_eq_true rfl, hc, hs⟩ zokc_10 (wX8_thrown G (P := fun v μ9 => v = some (.int (nI k)) ∧ μ9 = ov μ1 μ2) (X := noX) (ov μ1 μ2) ⟨by rw [h63], rfl⟩) (fun v μ9 hp => ?_) (fun _ _ hp => False.elim hp)
  obtain ⟨rfl, rfl⟩ := hp
  show VW _ _ _ _ _ _ _ [.int (nI k)] _ _ _
  refine v_iload (n := 974) dL_law_972 rfl rfl ?_
  refine v_icmp_eq (n := 977) (t := 979) dL_law_974 rfl (by decide) (fun _ => ?_) (fun z => absurd rfl z)
  refine v_iload (n := 981) dL_law_979 rfl rfl ?_
  have fin : VW G hh b L xs 996 [(0, .ref b), (1, .ref (zad G.1 9 0 0)), (2, .ref (zad G.1 10 0 0)), (3, .ref (zad G.1 35 0 0)), (4, .ref (zad G.1 36 0 0)), (5, .int (nI i)), (6, .int (nI k)), (7, .int r')] [] (ov μ1 μ2) (cells + 1) (slots + 6) := v_goto (n := 2576) dL_law_996 (by decide) (v_pick [0, 1, 2, 3, 4, 5] rfl (K _ hI3))
  refine v_if_ne (n := 984) (t := 996) dL_law_981 rfl (by decide) (fun _ => fin) (fun z => ?_)
  have hk0 := nI0_of hk4 z
  refine v_aload_n (n := 985) dL_law_984 rfl rfl ?_
  refine v_iconst (n := 986) (x := nI 0) dL_law_985 rfl rfl ?_
  refine v_lald (n := 987) (j := 0) (v := .long r.toInt64) dL_law_986 rfl hG zokc_35 (by decide) rfl rfl (by decide) (by show Value.long (ov μ1 μ2 35 0 0 0).toInt64 = _; rw [ov_ge (Or.inl rfl), hr hk0]) ?_
  refine v_iload (n := 989) dL_law_987 rfl rfl ?_
  refine v_i2l (n := 990) dL_law_989 rfl ?_
  rw [hrr hk0]
  refine v_lcmp (n := 991) dL_law_990 rfl ?_
  rw [lg_self]
  exact v_if_eq (n := 994) (t := 996) dL_law_991 rfl (by decide) (fun _ => by rw [hrr hk0] at fin; exact fin) (fun z => absurd rfl z)
theorem lc_queue (hG : G.2.2.2 = true) (hI : Inv μ W) (hi : i + 7 ≤ L) (hL : L ≤ 3584) (hW : W + 64 < 2 ^ 30) (hc : cells + 1 ≤ 603072) (hs : slots + 6 ≤ 7202922) (K : ∀ μ', Inv μ' (W + 64) → VW G hh b L xs 2576 (LB G b (nI i)) [] μ' (cells + 1) (slots + 6)) : VW G hh b L xs 999 (LB G b (nI i)) [] μ cells slots := by
  refine v_aload_n (n := 1000) dL_law_999 rfl rfl ?_
  refine v_aload_n (n := 1001) dL_law_1000 rfl rfl ?_
  refine v_iload (n := 1003) dL_law_1001 rfl rfl ?_
  refine v_iconst (n := 1004) (x := nI 1) dL_law_1003 rfl rfl ?_
  refine v_iadd (n := 1005) dL_law_1004 rfl ?_
  refine l_sld (n := 1006) (j := i + 1) dL_law_1005 rfl (nI_add i 1) (by omega) hL ?_
  refine v_aload_n (n := 1007) dL_law_1006 rfl rfl ?_
  refine v_iload (n := 1009) dL_law_1007 rfl rfl ?_
  refine v_iconst (n := 1010) (x := nI 2) dL_law_1009 rfl rfl ?_
  refine v_iadd (n := 1011) dL_law_1010 rfl ?_
  refine l_sld (n := 1012) (j := i + 2) dL_law_1011 rfl (nI_add i 2) (by omega) hL ?_
  refine v_aload_n (n := 1013) dL_law_1012 rfl rfl ?_
  refine v_callH (n := 1016) (As := [.ref (zad G.1 9 0 0), .int (xs (i + 1)), .int (xs (i + 2)), .ref (zad G.1 35 0 0)]) (rest := []) dL_law_1013 rfl lk_L_188 rfl rfl (Nat.le_of_ble_eq_true rfl) ⟨Nat.le_of_ble_eq_true rfl, Nat.le_of_ble_eq_true rfl, hc, hs⟩ (lw_queue hG ((xs (i + 1))) ((xs (i + 2))) (op_queue (offG G) hI ((xs (i + 1))) ((xs (i + 2))))) (fun v μ1 hp => ?_) (fun _ _ hp => False.elim hp)
  obtain ⟨k, r, μ0, hk4, rfl, hlk, hm, hr⟩ := hp
  show VW _ _ _ _ _ _ _ [.int (nI k)] _ _ _
  refine v_istore (n := 1018) (L' := [(0, .ref b), (1, .ref (zad G.1 9 0 0)), (2, .ref (zad G.1 10 0 0)), (3, .ref (zad G.1 35 0 0)), (4, .ref (zad G.1 36 0 0)), (5, .int (nI i)), (6, .int (nI k))]) dL_law_1016 rfl (show 7 ≤ 9 by decide) rfl ?_
  refine v_aload_n (n := 1019) dL_law_1018 rfl rfl ?_
  refine v_aload_n (n := 1020) dL_law_1019 rfl rfl ?_
  refine v_iload (n := 1022) dL_law_1020 rfl rfl ?_
  refine v_iconst (n := 1023) (x := nI 1) dL_law_1022 rfl rfl ?_
  refine v_iadd (n := 1024) dL_law_1023 rfl ?_
  refine l_sld (n := 1025) (j := i + 1) dL_law_1024 rfl (nI_add i 1) (by omega) hL ?_
  refine v_aload_n (n := 1026) dL_law_1025 rfl rfl ?_
  refine v_iload (n := 1028) dL_law_1026 rfl rfl ?_
  refine v_iconst (n := 1029) (x := nI 2) dL_law_1028 rfl rfl ?_
  refine v_iadd (n := 1030) dL_law_1029 rfl ?_
  refine l_sld (n := 1031) (j := i + 2) dL_law_1030 rfl (nI_add i 2) (by omega) hL ?_
  refine v_callV0 (n := 1034) (k := 10) (b := 0) (i := 0) (As := [.int (xs (i + 1)), .int (xs (i + 2))]) (rest := []) dL_law_1031 rfl lk_L_190 rfl rfl (Nat.le_of_ble_eq_true rfl) ⟨Nat.le_of_ble_eq_true rfl, Nat.le_of_ble_eq_true rfl, hc, hs⟩ zokc_10 hlk hm (fun v μ2 hp => ?_) (fun _ _ hp => False.elim hp)
  obtain ⟨r', rfl, hI2, h6, hrr⟩ := hp
  have hI3 : Inv (ov μ1 μ2) (W + 64) := hI2.lk Lk.ovr
  have h63 : ov μ1 μ2 10 0 0 6 = nI k := (ov_lt (by decide)).trans h6
  show VW _ _ _ _ _ _ _ [.int r'] _ _ _
  refine v_istore (n := 1036) (L' := [(0, .ref b), (1, .ref (zad G.1 9 0 0)), (2, .ref (zad G.1 10 0 0)), (3, .ref (zad G.1 35 0 0)), (4, .ref (zad G.1 36 0 0)), (5, .int (nI i)), (6, .int (nI k)), (7, .int r')]) dL_law_1034 rfl (show 8 ≤ 9 by decide) rfl ?_
  refine v_aload_n (n := 1037) dL_law_1036 rfl rfl ?_
  refine v_callV (n := 1040) (k := 10) (b := 0) (i := 0) (As := []) (rest := []) dL_law_1037 rfl lk_L_153 rfl rfl (Nat.le_of_ble_eq_true rfl) ⟨Nat.le_of_ble_eq_true rfl, Nat.le_of_ble_eq_true rfl, hc, hs⟩ zokc_10 (wX8_thrown G (P := fun v μ9 => v = some (.int (nI k)) ∧ μ9 = ov μ1 μ2) (X := noX) (ov μ1 μ2) ⟨by rw [h63], rfl⟩) (fun v μ9 hp => ?_) (fun _ _ hp => False.elim hp)
  obtain ⟨rfl, rfl⟩ := hp
  show VW _ _ _ _ _ _ _ [.int (nI k)] _ _ _
  refine v_iload (n := 1042) dL_law_1040 rfl rfl ?_
  refine v_icmp_eq (n := 1045) (t := 1047) dL_law_1042 rfl (by decide) (fun _ => ?_) (fun z => absurd rfl z)
  refine v_iload (n := 1049) dL_law_1047 rfl rfl ?_
  have fin : VW G hh b L xs 1064 [(0, .ref b), (1, .ref (zad G.1 9 0 0)), (2, .ref (zad G.1 10 0 0)), (3, .ref (zad G.1 35 0 0)), (4, .ref (zad G.1 36 0 0)), (5, .int (nI i)), (6, .int (nI k)), (7, .int r')] [] (ov μ1 μ2) (cells + 1) (slots + 6) := v_goto (n := 2576) dL_law_1064 (by decide) (v_pick [0, 1, 2, 3, 4, 5] rfl (K _ hI3))
  refine v_if_ne (n := 1052) (t := 1064) dL_law_1049 rfl (by decide) (fun _ => fin) (fun z => ?_)
  have hk0 := nI0_of hk4 z
  refine v_aload_n (n := 1053) dL_law_1052 rfl rfl ?_
  refine v_iconst (n := 1054) (x := nI 0) dL_law_1053 rfl rfl ?_
  refine v_lald (n := 1055) (j := 0) (v := .long r.toInt64) dL_law_1054 rfl hG zokc_35 (by decide) rfl rfl (by decide) (by show Value.long (ov μ1 μ2 35 0 0 0).toInt64 = _; rw [ov_ge (Or.inl rfl), hr hk0]) ?_
  refine v_iload (n := 1057) dL_law_1055 rfl rfl ?_
  refine v_i2l (n := 1058) dL_law_1057 rfl ?_
  rw [hrr hk0]
  refine v_lcmp (n := 1059) dL_law_1058 rfl ?_
  rw [lg_self]
  exact v_if_eq (n := 1062) (t := 1064) dL_law_1059 rfl (by decide) (fun _ => by rw [hrr hk0] at fin; exact fin) (fun z => absurd rfl z)
theorem lc_ski (hG : G.2.2.2 = true) (hI : Inv μ W) (hi : i + 7 ≤ L) (hL : L ≤ 3584) (hW : W + 64 < 2 ^ 30) (hc : cells + 1 ≤ 603072) (hs : slots + 6 ≤ 7202922) (K : ∀ μ', Inv μ' (W + 64) → VW G hh b L xs 2576 (LB G b (nI i)) [] μ' (cells + 1) (slots + 6)) : VW G hh b L xs 1067 (LB G b (nI i)) [] μ cells slots := by
  refine v_aload_n (n := 1068) dL_law_1067 rfl rfl ?_
  refine v_aload_n (n := 1069) dL_law_1068 rfl rfl ?_
  refine v_iload (n := 1071) dL_law_1069 rfl rfl ?_
  refine v_iconst (n := 1072) (x := nI 1) dL_law_1071 rfl rfl ?_
  refine v_iadd (n := 1073) dL_law_1072 rfl ?_
  refine l_sld (n := 1074) (j := i + 1) dL_law_1073 rfl (nI_add i 1) (by omega) hL ?_
  refine v_aload_n (n := 1075) dL_law_1074 rfl rfl ?_
  refine v_iload (n := 1077) dL_law_1075 rfl rfl ?_
  refine v_iconst (n := 1078) (x := nI 2) dL_law_1077 rfl rfl ?_
  refine v_iadd (n := 1079) dL_law_1078 rfl ?_
  refine l_sld (n := 1080) (j := i + 2) dL_law_1079 rfl (nI_add i 2) (by omega) hL ?_
  refine v_aload_n (n := 1081) dL_law_1080 rfl rfl ?_
  refine v_callH (n := 1084) (As := [.ref (zad G.1 9 0 0), .int (xs (i + 1)), .int (xs (i + 2)), .ref (zad G.1 35 0 0)]) (rest := []) dL_law_1081 rfl lk_L_191 rfl rfl (Nat.le_of_ble_eq_true rfl) ⟨Nat.le_of_ble_eq_true rfl, Nat.le_of_ble_eq_true rfl, hc, hs⟩ (lw_ski hG ((xs (i + 1))) ((xs (i + 2))) (op_ski (offG G) hI ((xs (i + 1))) ((xs (i + 2))))) (fun v μ1 hp => ?_) (fun _ _ hp => False.elim hp)
  obtain ⟨k, r, μ0, hk4, rfl, hlk, hm, hr⟩ := hp
  show VW _ _ _ _ _ _ _ [.int (nI k)] _ _ _
  refine v_istore (n := 1086) (L' := [(0, .ref b), (1, .ref (zad G.1 9 0 0)), (2, .ref (zad G.1 10 0 0)), (3, .ref (zad G.1 35 0 0)), (4, .ref (zad G.1 36 0 0)), (5, .int (nI i)), (6, .int (nI k))]) dL_law_1084 rfl (show 7 ≤ 9 by decide) rfl ?_
  refine v_aload_n (n := 1087) dL_law_1086 rfl rfl ?_
  refine v_aload_n (n := 1088) dL_law_1087 rfl rfl ?_
  refine v_iload (n := 1090) dL_law_1088 rfl rfl ?_
  refine v_iconst (n := 1091) (x := nI 1) dL_law_1090 rfl rfl ?_
  refine v_iadd (n := 1092) dL_law_1091 rfl ?_
  refine l_sld (n := 1093) (j := i + 1) dL_law_1092 rfl (nI_add i 1) (by omega) hL ?_
  refine v_aload_n (n := 1094) dL_law_1093 rfl rfl ?_
  refine v_iload (n := 1096) dL_law_1094 rfl rfl ?_
  refine v_iconst (n := 1097) (x := nI 2) dL_law_1096 rfl rfl ?_
  refine v_iadd (n := 1098) dL_law_1097 rfl ?_
  refine l_sld (n := 1099) (j := i + 2) dL_law_1098 rfl (nI_add i 2) (by omega) hL ?_
  refine v_callV0 (n := 1102) (k := 10) (b := 0) (i := 0) (As := [.int (xs (i + 1)), .int (xs (i + 2))]) (rest := []) dL_law_1099 rfl lk_L_193 rfl rfl (Nat.le_of_ble_eq_true rfl) ⟨Nat.le_of_ble_eq_true rfl, Nat.le_of_ble_eq_true rfl, hc, hs⟩ zokc_10 hlk hm (fun v μ2 hp => ?_) (fun _ _ hp => False.elim hp)
  obtain ⟨r', rfl, hI2, h6, hrr⟩ := hp
  have hI3 : Inv (ov μ1 μ2) (W + 64) := hI2.lk Lk.ovr
  have h63 : ov μ1 μ2 10 0 0 6 = nI k := (ov_lt (by decide)).trans h6
  show VW _ _ _ _ _ _ _ [.int r'] _ _ _
  refine v_istore (n := 1104) (L' := [(0, .ref b), (1, .ref (zad G.1 9 0 0)), (2, .ref (zad G.1 10 0 0)), (3, .ref (zad G.1 35 0 0)), (4, .ref (zad G.1 36 0 0)), (5, .int (nI i)), (6, .int (nI k)), (7, .int r')]) dL_law_1102 rfl (show 8 ≤ 9 by decide) rfl ?_
  refine v_aload_n (n := 1105) dL_law_1104 rfl rfl ?_
  refine v_callV (n := 1108) (k := 10) (b := 0) (i := 0) (As := []) (rest := []) dL_law_1105 rfl lk_L_153 rfl rfl (Nat.le_of_ble_eq_true rfl) ⟨Nat.le_of_ble_eq_true rfl, Nat.le_of_ble_eq_true rfl, hc, hs⟩ zokc_10 (wX8_thrown G (P := fun v μ9 => v = some (.int (nI k)) ∧ μ9 = ov μ1 μ2) (X := noX) (ov μ1 μ2) ⟨by rw [h63], rfl⟩) (fun v μ9 hp => ?_) (fun _ _ hp => False.elim hp)
  obtain ⟨rfl, rfl⟩ := hp
  show VW _ _ _ _ _ _ _ [.int (nI k)] _ _ _
  refine v_iload (n := 1110) dL_law_1108 rfl rfl ?_
  refine v_icmp_eq (n := 1113) (t := 1115) dL_law_1110 rfl (by decide) (fun _ => ?_) (fun z => absurd rfl z)
  refine v_iload (n := 1117) dL_law_1115 rfl rfl ?_
  have fin : VW G hh b L xs 1132 [(0, .ref b), (1, .ref (zad G.1 9 0 0)), (2, .ref (zad G.1 10 0 0)), (3, .ref (zad G.1 35 0 0)), (4, .ref (zad G.1 36 0 0)), (5, .int (nI i)), (6, .int (nI k)), (7, .int r')] [] (ov μ1 μ2) (cells + 1) (slots + 6) := v_goto (n := 2576) dL_law_1132 (by decide) (v_pick [0, 1, 2, 3, 4, 5] rfl (K _ hI3))
  refine v_if_ne (n := 1120) (t := 1132) dL_law_1117 rfl (by decide) (fun _ => fin) (fun z => ?_)
  have hk0 := nI0_of hk4 z
  refine v_aload_n (n := 1121) dL_law_1120 rfl rfl ?_
  refine v_iconst (n := 1122) (x := nI 0) dL_law_1121 rfl rfl ?_
  refine v_lald (n := 1123) (j := 0) (v := .long r.toInt64) dL_law_1122 rfl hG zokc_35 (by decide) rfl rfl (by decide) (by show Value.long (ov μ1 μ2 35 0 0 0).toInt64 = _; rw [ov_ge (Or.inl rfl), hr hk0]) ?_
  refine v_iload (n := 1125) dL_law_1123 rfl rfl ?_
  refine v_i2l (n := 1126) dL_law_1125 rfl ?_
  rw [hrr hk0]
  refine v_lcmp (n := 1127) dL_law_1126 rfl ?_
  rw [lg_self]
  exact v_if_eq (n := 1130) (t := 1132) dL_law_1127 rfl (by decide) (fun _ => by rw [hrr hk0] at fin; exact fin) (fun z => absurd rfl z)
theorem lc_leave (hG : G.2.2.2 = true) (hI : Inv μ W) (hi : i + 7 ≤ L) (hL : L ≤ 3584) (hW : W + 64 < 2 ^ 30) (hc : cells + 1 ≤ 603072) (hs : slots + 6 ≤ 7202922) (K : ∀ μ', Inv μ' (W + 64) → VW G hh b L xs 2576 (LB G b (nI i)) [] μ' (cells + 1) (slots + 6)) : VW G hh b L xs 1135 (LB G b (nI i)) [] μ cells slots := by
  refine v_aload_n (n := 1136) dL_law_1135 rfl rfl ?_
  refine v_aload_n (n := 1137) dL_law_1136 rfl rfl ?_
  refine v_iload (n := 1139) dL_law_1137 rfl rfl ?_
  refine v_iconst (n := 1140) (x := nI 1) dL_law_1139 rfl rfl ?_
  refine v_iadd (n := 1141) dL_law_1140 rfl ?_
  refine l_sld (n := 1142) (j := i + 1) dL_law_1141 rfl (nI_add i 1) (by omega) hL ?_
  refine v_aload_n (n := 1143) dL_law_1142 rfl rfl ?_
  refine v_callH (n := 1146) (As := [.ref (zad G.1 9 0 0), .int (xs (i + 1)), .ref (zad G.1 35 0 0)]) (rest := []) dL_law_1143 rfl lk_L_194 rfl rfl (Nat.le_of_ble_eq_true rfl) ⟨Nat.le_of_ble_eq_true rfl, Nat.le_of_ble_eq_true rfl, hc, hs⟩ (lw_leave hG ((xs (i + 1))) (op_leave (offG G) hI ((xs (i + 1))))) (fun v μ1 hp => ?_) (fun _ _ hp => False.elim hp)
  obtain ⟨k, r, μ0, hk4, rfl, hlk, hm, hr⟩ := hp
  show VW _ _ _ _ _ _ _ [.int (nI k)] _ _ _
  refine v_istore (n := 1148) (L' := [(0, .ref b), (1, .ref (zad G.1 9 0 0)), (2, .ref (zad G.1 10 0 0)), (3, .ref (zad G.1 35 0 0)), (4, .ref (zad G.1 36 0 0)), (5, .int (nI i)), (6, .int (nI k))]) dL_law_1146 rfl (show 7 ≤ 9 by decide) rfl ?_
  refine v_aload_n (n := 1149) dL_law_1148 rfl rfl ?_
  refine v_aload_n (n := 1150) dL_law_1149 rfl rfl ?_
  refine v_iload (n := 1152) dL_law_1150 rfl rfl ?_
  refine v_iconst (n := 1153) (x := nI 1) dL_law_1152 rfl rfl ?_
  refine v_iadd (n := 1154) dL_law_1153 rfl ?_
  refine l_sld (n := 1155) (j := i + 1) dL_law_1154 rfl (nI_add i 1) (by omega) hL ?_
  refine v_callV0 (n := 1158) (k := 10) (b := 0) (i := 0) (As := [.int (xs (i + 1))]) (rest := []) dL_law_1155 rfl lk_L_196 rfl rfl (Nat.le_of_ble_eq_true rfl) ⟨Nat.le_of_ble_eq_true rfl, Nat.le_of_ble_eq_true rfl, hc, hs⟩ zokc_10 hlk hm (fun v μ2 hp => ?_) (fun _ _ hp => False.elim hp)
  obtain ⟨r', rfl, hI2, h6, hrr⟩ := hp
  have hI3 : Inv (ov μ1 μ2) (W + 64) := hI2.lk Lk.ovr
  have h63 : ov μ1 μ2 10 0 0 6 = nI k := (ov_lt (by decide)).trans h6
  show VW _ _ _ _ _ _ _ [.int r'] _ _ _
  refine v_istore (n := 1160) (L' := [(0, .ref b), (1, .ref (zad G.1 9 0 0)), (2, .ref (zad G.1 10 0 0)), (3, .ref (zad G.1 35 0 0)), (4, .ref (zad G.1 36 0 0)), (5, .int (nI i)), (6, .int (nI k)), (7, .int r')]) dL_law_1158 rfl (show 8 ≤ 9 by decide) rfl ?_
  refine v_aload_n (n := 1161) dL_law_1160 rfl rfl ?_
  refine v_callV (n := 1164) (k := 10) (b := 0) (i := 0) (As := []) (rest := []) dL_law_1161 rfl lk_L_153 rfl rfl (Nat.le_of_ble_eq_true rfl) ⟨Nat.le_of_ble_eq_true rfl, Nat.le_of_ble_eq_true rfl, hc, hs⟩ zokc_10 (wX8_thrown G (P := fun v μ9 => v = some (.int (nI k)) ∧ μ9 = ov μ1 μ2) (X := noX) (ov μ1 μ2) ⟨by rw [h63], rfl⟩) (fun v μ9 hp => ?_) (fun _ _ hp => False.elim hp)
  obtain ⟨rfl, rfl⟩ := hp
  show VW _ _ _ _ _ _ _ [.int (nI k)] _ _ _
  refine v_iload (n := 1166) dL_law_1164 rfl rfl ?_
  refine v_icmp_eq (n := 1169) (t := 1171) dL_law_1166 rfl (by decide) (fun _ => ?_) (fun z => absurd rfl z)
  refine v_iload (n := 1173) dL_law_1171 rfl rfl ?_
  have fin : VW G hh b L xs 1188 [(0, .ref b), (1, .ref (zad G.1 9 0 0)), (2, .ref (zad G.1 10 0 0)), (3, .ref (zad G.1 35 0 0)), (4, .ref (zad G.1 36 0 0)), (5, .int (nI i)), (6, .int (nI k)), (7, .int r')] [] (ov μ1 μ2) (cells + 1) (slots + 6) := v_goto (n := 2576) dL_law_1188 (by decide) (v_pick [0, 1, 2, 3, 4, 5] rfl (K _ hI3))
  refine v_if_ne (n := 1176) (t := 1188) dL_law_1173 rfl (by decide) (fun _ => fin) (fun z => ?_)
  have hk0 := nI0_of hk4 z
  refine v_aload_n (n := 1177) dL_law_1176 rfl rfl ?_
  refine v_iconst (n := 1178) (x := nI 0) dL_law_1177 rfl rfl ?_
  refine v_lald (n := 1179) (j := 0) (v := .long r.toInt64) dL_law_1178 rfl hG zokc_35 (by decide) rfl rfl (by decide) (by show Value.long (ov μ1 μ2 35 0 0 0).toInt64 = _; rw [ov_ge (Or.inl rfl), hr hk0]) ?_
  refine v_iload (n := 1181) dL_law_1179 rfl rfl ?_
  refine v_i2l (n := 1182) dL_law_1181 rfl ?_
  rw [hrr hk0]
  refine v_lcmp (n := 1183) dL_law_1182 rfl ?_
  rw [lg_self]
  exact v_if_eq (n := 1186) (t := 1188) dL_law_1183 rfl (by decide) (fun _ => by rw [hrr hk0] at fin; exact fin) (fun z => absurd rfl z)
theorem lc_whyNotQueue (hG : G.2.2.2 = true) (hI : Inv μ W) (hi : i + 7 ≤ L) (hL : L ≤ 3584) (hW : W + 64 < 2 ^ 30) (hc : cells + 1 ≤ 603072) (hs : slots + 6 ≤ 7202922) (K : ∀ μ', Inv μ' (W + 64) → VW G hh b L xs 2576 (LB G b (nI i)) [] μ' (cells + 1) (slots + 6)) : VW G hh b L xs 1191 (LB G b (nI i)) [] μ cells slots := by
  refine v_aload_n (n := 1192) dL_law_1191 rfl rfl ?_
  refine v_aload_n (n := 1193) dL_law_1192 rfl rfl ?_
  refine v_iload (n := 1195) dL_law_1193 rfl rfl ?_
  refine v_iconst (n := 1196) (x := nI 1) dL_law_1195 rfl rfl ?_
  refine v_iadd (n := 1197) dL_law_1196 rfl ?_
  refine l_sld (n := 1198) (j := i + 1) dL_law_1197 rfl (nI_add i 1) (by omega) hL ?_
  refine v_aload_n (n := 1199) dL_law_1198 rfl rfl ?_
  refine v_iload (n := 1201) dL_law_1199 rfl rfl ?_
  refine v_iconst (n := 1202) (x := nI 2) dL_law_1201 rfl rfl ?_
  refine v_iadd (n := 1203) dL_law_1202 rfl ?_
  refine l_sld (n := 1204) (j := i + 2) dL_law_1203 rfl (nI_add i 2) (by omega) hL ?_
  refine v_aload_n (n := 1205) dL_law_1204 rfl rfl ?_
  refine v_callH (n := 1208) (As := [.ref (zad G.1 9 0 0), .int (xs (i + 1)), .int (xs (i + 2)), .ref (zad G.1 35 0 0)]) (rest := []) dL_law_1205 rfl lk_L_197 rfl rfl (Nat.le_of_ble_eq_true rfl) ⟨Nat.le_of_ble_eq_true rfl, Nat.le_of_ble_eq_true rfl, hc, hs⟩ (lw_whyNotQueue hG ((xs (i + 1))) ((xs (i + 2))) (op_whyNotQueue (offG G) hI ((xs (i + 1))) ((xs (i + 2))))) (fun v μ1 hp => ?_) (fun _ _ hp => False.elim hp)
  obtain ⟨k, r, μ0, hk4, rfl, hlk, hm, hr⟩ := hp
  show VW _ _ _ _ _ _ _ [.int (nI k)] _ _ _
  refine v_istore (n := 1210) (L' := [(0, .ref b), (1, .ref (zad G.1 9 0 0)), (2, .ref (zad G.1 10 0 0)), (3, .ref (zad G.1 35 0 0)), (4, .ref (zad G.1 36 0 0)), (5, .int (nI i)), (6, .int (nI k))]) dL_law_1208 rfl (show 7 ≤ 9 by decide) rfl ?_
  refine v_aload_n (n := 1211) dL_law_1210 rfl rfl ?_
  refine v_aload_n (n := 1212) dL_law_1211 rfl rfl ?_
  refine v_iload (n := 1214) dL_law_1212 rfl rfl ?_
  refine v_iconst (n := 1215) (x := nI 1) dL_law_1214 rfl rfl ?_
  refine v_iadd (n := 1216) dL_law_1215 rfl ?_
  refine l_sld (n := 1217) (j := i + 1) dL_law_1216 rfl (nI_add i 1) (by omega) hL ?_
  refine v_aload_n (n := 1218) dL_law_1217 rfl rfl ?_
  refine v_iload (n := 1220) dL_law_1218 rfl rfl ?_
  refine v_iconst (n := 1221) (x := nI 2) dL_law_1220 rfl rfl ?_
  refine v_iadd (n := 1222) dL_law_1221 rfl ?_
  refine l_sld (n := 1223) (j := i + 2) dL_law_1222 rfl (nI_add i 2) (by omega) hL ?_
  refine v_callV0 (n := 1226) (k := 10) (b := 0) (i := 0) (As := [.int (xs (i + 1)), .int (xs (i + 2))]) (rest := []) dL_law_1223 rfl lk_L_199 rfl rfl (Nat.le_of_ble_eq_true rfl) ⟨Nat.le_of_ble_eq_true rfl, Nat.le_of_ble_eq_true rfl, hc, hs⟩ zokc_10 hlk hm (fun v μ2 hp => ?_) (fun _ _ hp => False.elim hp)
  obtain ⟨r', rfl, hI2, h6, hrr⟩ := hp
  have hI3 : Inv (ov μ1 μ2) (W + 64) := hI2.lk Lk.ovr
  have h63 : ov μ1 μ2 10 0 0 6 = nI k := (ov_lt (by decide)).trans h6
  show VW _ _ _ _ _ _ _ [.int r'] _ _ _
  refine v_istore (n := 1228) (L' := [(0, .ref b), (1, .ref (zad G.1 9 0 0)), (2, .ref (zad G.1 10 0 0)), (3, .ref (zad G.1 35 0 0)), (4, .ref (zad G.1 36 0 0)), (5, .int (nI i)), (6, .int (nI k)), (7, .int r')]) dL_law_1226 rfl (show 8 ≤ 9 by decide) rfl ?_
  refine v_aload_n (n := 1229) dL_law_1228 rfl rfl ?_
  refine v_callV (n := 1232) (k := 10) (b := 0) (i := 0) (As := []) (rest := []) dL_law_1229 rfl lk_L_153 rfl rfl (Nat.le_of_ble_eq_true rfl) ⟨Nat.le_of_ble_eq_true rfl, Nat.le_of_ble_eq_true rfl, hc, hs⟩ zokc_10 (wX8_thrown G (P := fun v μ9 => v = some (.int (nI k)) ∧ μ9 = ov μ1 μ2) (X := noX) (ov μ1 μ2) ⟨by rw [h63], rfl⟩) (fun v μ9 hp => ?_) (fun _ _ hp => False.elim hp)
  obtain ⟨rfl, rfl⟩ := hp
  show VW _ _ _ _ _ _ _ [.int (nI k)] _ _ _
  refine v_iload (n := 1234) dL_law_1232 rfl rfl ?_
  refine v_icmp_eq (n := 1237) (t := 1239) dL_law_1234 rfl (by decide) (fun _ => ?_) (fun z => absurd rfl z)
  refine v_iload (n := 1241) dL_law_1239 rfl rfl ?_
  have fin : VW G hh b L xs 1256 [(0, .ref b), (1, .ref (zad G.1 9 0 0)), (2, .ref (zad G.1 10 0 0)), (3, .ref (zad G.1 35 0 0)), (4, .ref (zad G.1 36 0 0)), (5, .int (nI i)), (6, .int (nI k)), (7, .int r')] [] (ov μ1 μ2) (cells + 1) (slots + 6) := v_goto (n := 2576) dL_law_1256 (by decide) (v_pick [0, 1, 2, 3, 4, 5] rfl (K _ hI3))
  refine v_if_ne (n := 1244) (t := 1256) dL_law_1241 rfl (by decide) (fun _ => fin) (fun z => ?_)
  have hk0 := nI0_of hk4 z
  refine v_aload_n (n := 1245) dL_law_1244 rfl rfl ?_
  refine v_iconst (n := 1246) (x := nI 0) dL_law_1245 rfl rfl ?_
  refine v_lald (n := 1247) (j := 0) (v := .long r.toInt64) dL_law_1246 rfl hG zokc_35 (by decide) rfl rfl (by decide) (by show Value.long (ov μ1 μ2 35 0 0 0).toInt64 = _; rw [ov_ge (Or.inl rfl), hr hk0]) ?_
  refine v_iload (n := 1249) dL_law_1247 rfl rfl ?_
  refine v_i2l (n := 1250) dL_law_1249 rfl ?_
  rw [hrr hk0]
  refine v_lcmp (n := 1251) dL_law_1250 rfl ?_
  rw [lg_self]
  exact v_if_eq (n := 1254) (t := 1256) dL_law_1251 rfl (by decide) (fun _ => by rw [hrr hk0] at fin; exact fin) (fun z => absurd rfl z)
theorem lc_whyNotSki (hG : G.2.2.2 = true) (hI : Inv μ W) (hi : i + 7 ≤ L) (hL : L ≤ 3584) (hW : W + 64 < 2 ^ 30) (hc : cells + 1 ≤ 603072) (hs : slots + 6 ≤ 7202922) (K : ∀ μ', Inv μ' (W + 64) → VW G hh b L xs 2576 (LB G b (nI i)) [] μ' (cells + 1) (slots + 6)) : VW G hh b L xs 1259 (LB G b (nI i)) [] μ cells slots := by
  refine v_aload_n (n := 1260) dL_law_1259 rfl rfl ?_
  refine v_aload_n (n := 1261) dL_law_1260 rfl rfl ?_
  refine v_iload (n := 1263) dL_law_1261 rfl rfl ?_
  refine v_iconst (n := 1264) (x := nI 1) dL_law_1263 rfl rfl ?_
  refine v_iadd (n := 1265) dL_law_1264 rfl ?_
  refine l_sld (n := 1266) (j := i + 1) dL_law_1265 rfl (nI_add i 1) (by omega) hL ?_
  refine v_aload_n (n := 1267) dL_law_1266 rfl rfl ?_
  refine v_iload (n := 1269) dL_law_1267 rfl rfl ?_
  refine v_iconst (n := 1270) (x := nI 2) dL_law_1269 rfl rfl ?_
  refine v_iadd (n := 1271) dL_law_1270 rfl ?_
  refine l_sld (n := 1272) (j := i + 2) dL_law_1271 rfl (nI_add i 2) (by omega) hL ?_
  refine v_aload_n (n := 1273) dL_law_1272 rfl rfl ?_
  refine v_callH (n := 1276) (As := [.ref (zad G.1 9 0 0), .int (xs (i + 1)), .int (xs (i + 2)), .ref (zad G.1 35 0 0)]) (rest := []) dL_law_1273 rfl lk_L_200 rfl rfl (Nat.le_of_ble_eq_true rfl) ⟨Nat.le_of_ble_eq_true rfl, Nat.le_of_ble_eq_true rfl, hc, hs⟩ (lw_whyNotSki hG ((xs (i + 1))) ((xs (i + 2))) (op_whyNotSki (offG G) hI ((xs (i + 1))) ((xs (i + 2))))) (fun v μ1 hp => ?_) (fun _ _ hp => False.elim hp)
  obtain ⟨k, r, μ0, hk4, rfl, hlk, hm, hr⟩ := hp
  show VW _ _ _ _ _ _ _ [.int (nI k)] _ _ _
  refine v_istore (n := 1278) (L' := [(0, .ref b), (1, .ref (zad G.1 9 0 0)), (2, .ref (zad G.1 10 0 0)), (3, .ref (zad G.1 35 0 0)), (4, .ref (zad G.1 36 0 0)), (5, .int (nI i)), (6, .int (nI k))]) dL_law_1276 rfl (show 7 ≤ 9 by decide) rfl ?_
  refine v_aload_n (n := 1279) dL_law_1278 rfl rfl ?_
  refine v_aload_n (n := 1280) dL_law_1279 rfl rfl ?_
  refine v_iload (n := 1282) dL_law_1280 rfl rfl ?_
  refine v_iconst (n := 1283) (x := nI 1) dL_law_1282 rfl rfl ?_
  refine v_iadd (n := 1284) dL_law_1283 rfl ?_
  refine l_sld (n := 1285) (j := i + 1) dL_law_1284 rfl (nI_add i 1) (by omega) hL ?_
  refine v_aload_n (n := 1286) dL_law_1285 rfl rfl ?_
  refine v_iload (n := 1288) dL_law_1286 rfl rfl ?_
  refine v_iconst (n := 1289) (x := nI 2) dL_law_1288 rfl rfl ?_
  refine v_iadd (n := 1290) dL_law_1289 rfl ?_
  refine l_sld (n := 1291) (j := i + 2) dL_law_1290 rfl (nI_add i 2) (by omega) hL ?_
  refine v_callV0 (n := 1294) (k := 10) (b := 0) (i := 0) (As := [.int (xs (i + 1)), .int (xs (i + 2))]) (rest := []) dL_law_1291 rfl lk_L_202 rfl rfl (Nat.le_of_ble_eq_true rfl) ⟨Nat.le_of_ble_eq_true rfl, Nat.le_of_ble_eq_true rfl, hc, hs⟩ zokc_10 hlk hm (fun v μ2 hp => ?_) (fun _ _ hp => False.elim hp)
  obtain ⟨r', rfl, hI2, h6, hrr⟩ := hp
  have hI3 : Inv (ov μ1 μ2) (W + 64) := hI2.lk Lk.ovr
  have h63 : ov μ1 μ2 10 0 0 6 = nI k := (ov_lt (by decide)).trans h6
  show VW _ _ _ _ _ _ _ [.int r'] _ _ _
  refine v_istore (n := 1296) (L' := [(0, .ref b), (1, .ref (zad G.1 9 0 0)), (2, .ref (zad G.1 10 0 0)), (3, .ref (zad G.1 35 0 0)), (4, .ref (zad G.1 36 0 0)), (5, .int (nI i)), (6, .int (nI k)), (7, .int r')]) dL_law_1294 rfl (show 8 ≤ 9 by decide) rfl ?_
  refine v_aload_n (n := 1297) dL_law_1296 rfl rfl ?_
  refine v_callV (n := 1300) (k := 10) (b := 0) (i := 0) (As := []) (rest := []) dL_law_1297 rfl lk_L_153 rfl rfl (Nat.le_of_ble_eq_true rfl) ⟨Nat.le_of_ble_eq_true rfl, Nat.le_of_ble_eq_true rfl, hc, hs⟩ zokc_10 (wX8_thrown G (P := fun v μ9 => v = some (.int (nI k)) ∧ μ9 = ov μ1 μ2) (X := noX) (ov μ1 μ2) ⟨by rw [h63], rfl⟩) (fun v μ9 hp => ?_) (fun _ _ hp => False.elim hp)
  obtain ⟨rfl, rfl⟩ := hp
  show VW _ _ _ _ _ _ _ [.int (nI k)] _ _ _
  refine v_iload (n := 1302) dL_law_1300 rfl rfl ?_
  refine v_icmp_eq (n := 1305) (t := 1307) dL_law_1302 rfl (by decide) (fun _ => ?_) (fun z => absurd rfl z)
  refine v_iload (n := 1309) dL_law_1307 rfl rfl ?_
  have fin : VW G hh b L xs 1324 [(0, .ref b), (1, .ref (zad G.1 9 0 0)), (2, .ref (zad G.1 10 0 0)), (3, .ref (zad G.1 35 0 0)), (4, .ref (zad G.1 36 0 0)), (5, .int (nI i)), (6, .int (nI k)), (7, .int r')] [] (ov μ1 μ2) (cells + 1) (slots + 6) := v_goto (n := 2576) dL_law_1324 (by decide) (v_pick [0, 1, 2, 3, 4, 5] rfl (K _ hI3))
  refine v_if_ne (n := 1312) (t := 1324) dL_law_1309 rfl (by decide) (fun _ => fin) (fun z => ?_)
  have hk0 := nI0_of hk4 z
  refine v_aload_n (n := 1313) dL_law_1312 rfl rfl ?_
  refine v_iconst (n := 1314) (x := nI 0) dL_law_1313 rfl rfl ?_
  refine v_lald (n := 1315) (j := 0) (v := .long r.toInt64) dL_law_1314 rfl hG zokc_35 (by decide) rfl rfl (by decide) (by show Value.long (ov μ1 μ2 35 0 0 0).toInt64 = _; rw [ov_ge (Or.inl rfl), hr hk0]) ?_
  refine v_iload (n := 1317) dL_law_1315 rfl rfl ?_
  refine v_i2l (n := 1318) dL_law_1317 rfl ?_
  rw [hrr hk0]
  refine v_lcmp (n := 1319) dL_law_1318 rfl ?_
  rw [lg_self]
  exact v_if_eq (n := 1322) (t := 1324) dL_law_1319 rfl (by decide) (fun _ => by rw [hrr hk0] at fin; exact fin) (fun z => absurd rfl z)
theorem lc_reason (hG : G.2.2.2 = true) (hI : Inv μ W) (hi : i + 7 ≤ L) (hL : L ≤ 3584) (hW : W + 64 < 2 ^ 30) (hc : cells + 1 ≤ 603072) (hs : slots + 6 ≤ 7202922) (K : ∀ μ', Inv μ' (W + 64) → VW G hh b L xs 2576 (LB G b (nI i)) [] μ' (cells + 1) (slots + 6)) : VW G hh b L xs 1327 (LB G b (nI i)) [] μ cells slots := by
  refine v_aload_n (n := 1328) dL_law_1327 rfl rfl ?_
  refine v_aload_n (n := 1329) dL_law_1328 rfl rfl ?_
  refine v_callH (n := 1332) (As := [.ref (zad G.1 9 0 0), .ref (zad G.1 35 0 0)]) (rest := []) dL_law_1329 rfl lk_L_203 rfl rfl (Nat.le_of_ble_eq_true rfl) ⟨Nat.le_of_ble_eq_true rfl, Nat.le_of_ble_eq_true rfl, hc, hs⟩ (lw_reason hG (op_reason (offG G) hI )) (fun v μ1 hp => ?_) (fun _ _ hp => False.elim hp)
  obtain ⟨k, r, μ0, hk4, rfl, hlk, hm, hr⟩ := hp
  show VW _ _ _ _ _ _ _ [.int (nI k)] _ _ _
  refine v_istore (n := 1334) (L' := [(0, .ref b), (1, .ref (zad G.1 9 0 0)), (2, .ref (zad G.1 10 0 0)), (3, .ref (zad G.1 35 0 0)), (4, .ref (zad G.1 36 0 0)), (5, .int (nI i)), (6, .int (nI k))]) dL_law_1332 rfl (show 7 ≤ 9 by decide) rfl ?_
  refine v_aload_n (n := 1335) dL_law_1334 rfl rfl ?_
  refine v_callV0 (n := 1338) (k := 10) (b := 0) (i := 0) (As := []) (rest := []) dL_law_1335 rfl lk_L_206 rfl rfl (Nat.le_of_ble_eq_true rfl) ⟨Nat.le_of_ble_eq_true rfl, Nat.le_of_ble_eq_true rfl, hc, hs⟩ zokc_10 hlk hm (fun v μ2 hp => ?_) (fun _ _ hp => False.elim hp)
  obtain ⟨r', rfl, hI2, h6, hrr⟩ := hp
  have hI3 : Inv (ov μ1 μ2) (W + 64) := hI2.lk Lk.ovr
  have h63 : ov μ1 μ2 10 0 0 6 = nI k := (ov_lt (by decide)).trans h6
  show VW _ _ _ _ _ _ _ [.int r'] _ _ _
  refine v_istore (n := 1340) (L' := [(0, .ref b), (1, .ref (zad G.1 9 0 0)), (2, .ref (zad G.1 10 0 0)), (3, .ref (zad G.1 35 0 0)), (4, .ref (zad G.1 36 0 0)), (5, .int (nI i)), (6, .int (nI k)), (7, .int r')]) dL_law_1338 rfl (show 8 ≤ 9 by decide) rfl ?_
  refine v_aload_n (n := 1341) dL_law_1340 rfl rfl ?_
  refine v_callV (n := 1344) (k := 10) (b := 0) (i := 0) (As := []) (rest := []) dL_law_1341 rfl lk_L_153 rfl rfl (Nat.le_of_ble_eq_true rfl) ⟨Nat.le_of_ble_eq_true rfl, Nat.le_of_ble_eq_true rfl, hc, hs⟩ zokc_10 (wX8_thrown G (P := fun v μ9 => v = some (.int (nI k)) ∧ μ9 = ov μ1 μ2) (X := noX) (ov μ1 μ2) ⟨by rw [h63], rfl⟩) (fun v μ9 hp => ?_) (fun _ _ hp => False.elim hp)
  obtain ⟨rfl, rfl⟩ := hp
  show VW _ _ _ _ _ _ _ [.int (nI k)] _ _ _
  refine v_iload (n := 1346) dL_law_1344 rfl rfl ?_
  refine v_icmp_eq (n := 1349) (t := 1351) dL_law_1346 rfl (by decide) (fun _ => ?_) (fun z => absurd rfl z)
  refine v_iload (n := 1353) dL_law_1351 rfl rfl ?_
  have fin : VW G hh b L xs 1368 [(0, .ref b), (1, .ref (zad G.1 9 0 0)), (2, .ref (zad G.1 10 0 0)), (3, .ref (zad G.1 35 0 0)), (4, .ref (zad G.1 36 0 0)), (5, .int (nI i)), (6, .int (nI k)), (7, .int r')] [] (ov μ1 μ2) (cells + 1) (slots + 6) := v_goto (n := 2576) dL_law_1368 (by decide) (v_pick [0, 1, 2, 3, 4, 5] rfl (K _ hI3))
  refine v_if_ne (n := 1356) (t := 1368) dL_law_1353 rfl (by decide) (fun _ => fin) (fun z => ?_)
  have hk0 := nI0_of hk4 z
  refine v_aload_n (n := 1357) dL_law_1356 rfl rfl ?_
  refine v_iconst (n := 1358) (x := nI 0) dL_law_1357 rfl rfl ?_
  refine v_lald (n := 1359) (j := 0) (v := .long r.toInt64) dL_law_1358 rfl hG zokc_35 (by decide) rfl rfl (by decide) (by show Value.long (ov μ1 μ2 35 0 0 0).toInt64 = _; rw [ov_ge (Or.inl rfl), hr hk0]) ?_
  refine v_iload (n := 1361) dL_law_1359 rfl rfl ?_
  refine v_i2l (n := 1362) dL_law_1361 rfl ?_
  rw [hrr hk0]
  refine v_lcmp (n := 1363) dL_law_1362 rfl ?_
  rw [lg_self]
  exact v_if_eq (n := 1366) (t := 1368) dL_law_1363 rfl (by decide) (fun _ => by rw [hrr hk0] at fin; exact fin) (fun z => absurd rfl z)
theorem lc_opened (hG : G.2.2.2 = true) (hI : Inv μ W) (hi : i + 7 ≤ L) (hL : L ≤ 3584) (hW : W + 64 < 2 ^ 30) (hc : cells + 1 ≤ 603072) (hs : slots + 6 ≤ 7202922) (K : ∀ μ', Inv μ' (W + 64) → VW G hh b L xs 2576 (LB G b (nI i)) [] μ' (cells + 1) (slots + 6)) : VW G hh b L xs 1371 (LB G b (nI i)) [] μ cells slots := by
  refine v_aload_n (n := 1372) dL_law_1371 rfl rfl ?_
  refine v_aload_n (n := 1373) dL_law_1372 rfl rfl ?_
  refine v_iload (n := 1375) dL_law_1373 rfl rfl ?_
  refine v_iconst (n := 1376) (x := nI 1) dL_law_1375 rfl rfl ?_
  refine v_iadd (n := 1377) dL_law_1376 rfl ?_
  refine l_sld (n := 1378) (j := i + 1) dL_law_1377 rfl (nI_add i 1) (by omega) hL ?_
  refine v_aload_n (n := 1379) dL_law_1378 rfl rfl ?_
  refine v_callH (n := 1382) (As := [.ref (zad G.1 9 0 0), .int (xs (i + 1)), .ref (zad G.1 35 0 0)]) (rest := []) dL_law_1379 rfl lk_L_207 rfl rfl (Nat.le_of_ble_eq_true rfl) ⟨Nat.le_of_ble_eq_true rfl, Nat.le_of_ble_eq_true rfl, hc, hs⟩ (lw_opened hG ((xs (i + 1))) (op_opened (offG G) hI ((xs (i + 1))))) (fun v μ1 hp => ?_) (fun _ _ hp => False.elim hp)
  obtain ⟨k, r, μ0, hk4, rfl, hlk, hm, hr⟩ := hp
  show VW _ _ _ _ _ _ _ [.int (nI k)] _ _ _
  refine v_istore (n := 1384) (L' := [(0, .ref b), (1, .ref (zad G.1 9 0 0)), (2, .ref (zad G.1 10 0 0)), (3, .ref (zad G.1 35 0 0)), (4, .ref (zad G.1 36 0 0)), (5, .int (nI i)), (6, .int (nI k))]) dL_law_1382 rfl (show 7 ≤ 9 by decide) rfl ?_
  refine v_aload_n (n := 1385) dL_law_1384 rfl rfl ?_
  refine v_aload_n (n := 1386) dL_law_1385 rfl rfl ?_
  refine v_iload (n := 1388) dL_law_1386 rfl rfl ?_
  refine v_iconst (n := 1389) (x := nI 1) dL_law_1388 rfl rfl ?_
  refine v_iadd (n := 1390) dL_law_1389 rfl ?_
  refine l_sld (n := 1391) (j := i + 1) dL_law_1390 rfl (nI_add i 1) (by omega) hL ?_
  refine v_callV0 (n := 1394) (k := 10) (b := 0) (i := 0) (As := [.int (xs (i + 1))]) (rest := []) dL_law_1391 rfl lk_L_209 rfl rfl (Nat.le_of_ble_eq_true rfl) ⟨Nat.le_of_ble_eq_true rfl, Nat.le_of_ble_eq_true rfl, hc, hs⟩ zokc_10 hlk hm (fun v μ2 hp => ?_) (fun _ _ hp => False.elim hp)
  obtain ⟨r', rfl, hI2, h6, hrr⟩ := hp
  have hI3 : Inv (ov μ1 μ2) (W + 64) := hI2.lk Lk.ovr
  have h63 : ov μ1 μ2 10 0 0 6 = nI k := (ov_lt (by decide)).trans h6
  show VW _ _ _ _ _ _ _ [.int r'] _ _ _
  refine v_istore (n := 1396) (L' := [(0, .ref b), (1, .ref (zad G.1 9 0 0)), (2, .ref (zad G.1 10 0 0)), (3, .ref (zad G.1 35 0 0)), (4, .ref (zad G.1 36 0 0)), (5, .int (nI i)), (6, .int (nI k)), (7, .int r')]) dL_law_1394 rfl (show 8 ≤ 9 by decide) rfl ?_
  refine v_aload_n (n := 1397) dL_law_1396 rfl rfl ?_
  refine v_callV (n := 1400) (k := 10) (b := 0) (i := 0) (As := []) (rest := []) dL_law_1397 rfl lk_L_153 rfl rfl (Nat.le_of_ble_eq_true rfl) ⟨Nat.le_of_ble_eq_true rfl, Nat.le_of_ble_eq_true rfl, hc, hs⟩ zokc_10 (wX8_thrown G (P := fun v μ9 => v = some (.int (nI k)) ∧ μ9 = ov μ1 μ2) (X := noX) (ov μ1 μ2) ⟨by rw [h63], rfl⟩) (fun v μ9 hp => ?_) (fun _ _ hp => False.elim hp)
  obtain ⟨rfl, rfl⟩ := hp
  show VW _ _ _ _ _ _ _ [.int (nI k)] _ _ _
  refine v_iload (n := 1402) dL_law_1400 rfl rfl ?_
  refine v_icmp_eq (n := 1405) (t := 1407) dL_law_1402 rfl (by decide) (fun _ => ?_) (fun z => absurd rfl z)
  refine v_iload (n := 1409) dL_law_1407 rfl rfl ?_
  have fin : VW G hh b L xs 1424 [(0, .ref b), (1, .ref (zad G.1 9 0 0)), (2, .ref (zad G.1 10 0 0)), (3, .ref (zad G.1 35 0 0)), (4, .ref (zad G.1 36 0 0)), (5, .int (nI i)), (6, .int (nI k)), (7, .int r')] [] (ov μ1 μ2) (cells + 1) (slots + 6) := v_goto (n := 2576) dL_law_1424 (by decide) (v_pick [0, 1, 2, 3, 4, 5] rfl (K _ hI3))
  refine v_if_ne (n := 1412) (t := 1424) dL_law_1409 rfl (by decide) (fun _ => fin) (fun z => ?_)
  have hk0 := nI0_of hk4 z
  refine v_aload_n (n := 1413) dL_law_1412 rfl rfl ?_
  refine v_iconst (n := 1414) (x := nI 0) dL_law_1413 rfl rfl ?_
  refine v_lald (n := 1415) (j := 0) (v := .long r.toInt64) dL_law_1414 rfl hG zokc_35 (by decide) rfl rfl (by decide) (by show Value.long (ov μ1 μ2 35 0 0 0).toInt64 = _; rw [ov_ge (Or.inl rfl), hr hk0]) ?_
  refine v_iload (n := 1417) dL_law_1415 rfl rfl ?_
  refine v_i2l (n := 1418) dL_law_1417 rfl ?_
  rw [hrr hk0]
  refine v_lcmp (n := 1419) dL_law_1418 rfl ?_
  rw [lg_self]
  exact v_if_eq (n := 1422) (t := 1424) dL_law_1419 rfl (by decide) (fun _ => by rw [hrr hk0] at fin; exact fin) (fun z => absurd rfl z)
theorem lc_queued (hG : G.2.2.2 = true) (hI : Inv μ W) (hi : i + 7 ≤ L) (hL : L ≤ 3584) (hW : W + 64 < 2 ^ 30) (hc : cells + 1 ≤ 603072) (hs : slots + 6 ≤ 7202922) (K : ∀ μ', Inv μ' (W + 64) → VW G hh b L xs 2576 (LB G b (nI i)) [] μ' (cells + 1) (slots + 6)) : VW G hh b L xs 1427 (LB G b (nI i)) [] μ cells slots := by
  refine v_aload_n (n := 1428) dL_law_1427 rfl rfl ?_
  refine v_aload_n (n := 1429) dL_law_1428 rfl rfl ?_
  refine v_iload (n := 1431) dL_law_1429 rfl rfl ?_
  refine v_iconst (n := 1432) (x := nI 1) dL_law_1431 rfl rfl ?_
  refine v_iadd (n := 1433) dL_law_1432 rfl ?_
  refine l_sld (n := 1434) (j := i + 1) dL_law_1433 rfl (nI_add i 1) (by omega) hL ?_
  refine v_aload_n (n := 1435) dL_law_1434 rfl rfl ?_
  refine v_iload (n := 1437) dL_law_1435 rfl rfl ?_
  refine v_iconst (n := 1438) (x := nI 2) dL_law_1437 rfl rfl ?_
  refine v_iadd (n := 1439) dL_law_1438 rfl ?_
  refine l_sld (n := 1440) (j := i + 2) dL_law_1439 rfl (nI_add i 2) (by omega) hL ?_
  refine v_aload_n (n := 1441) dL_law_1440 rfl rfl ?_
  refine v_callH (n := 1444) (As := [.ref (zad G.1 9 0 0), .int (xs (i + 1)), .int (xs (i + 2)), .ref (zad G.1 35 0 0)]) (rest := []) dL_law_1441 rfl lk_L_210 rfl rfl (Nat.le_of_ble_eq_true rfl) ⟨Nat.le_of_ble_eq_true rfl, Nat.le_of_ble_eq_true rfl, hc, hs⟩ (lw_queued hG ((xs (i + 1))) ((xs (i + 2))) (op_queued (offG G) hI ((xs (i + 1))) ((xs (i + 2))))) (fun v μ1 hp => ?_) (fun _ _ hp => False.elim hp)
  obtain ⟨k, r, μ0, hk4, rfl, hlk, hm, hr⟩ := hp
  show VW _ _ _ _ _ _ _ [.int (nI k)] _ _ _
  refine v_istore (n := 1446) (L' := [(0, .ref b), (1, .ref (zad G.1 9 0 0)), (2, .ref (zad G.1 10 0 0)), (3, .ref (zad G.1 35 0 0)), (4, .ref (zad G.1 36 0 0)), (5, .int (nI i)), (6, .int (nI k))]) dL_law_1444 rfl (show 7 ≤ 9 by decide) rfl ?_
  refine v_aload_n (n := 1447) dL_law_1446 rfl rfl ?_
  refine v_aload_n (n := 1448) dL_law_1447 rfl rfl ?_
  refine v_iload (n := 1450) dL_law_1448 rfl rfl ?_
  refine v_iconst (n := 1451) (x := nI 1) dL_law_1450 rfl rfl ?_
  refine v_iadd (n := 1452) dL_law_1451 rfl ?_
  refine l_sld (n := 1453) (j := i + 1) dL_law_1452 rfl (nI_add i 1) (by omega) hL ?_
  refine v_aload_n (n := 1454) dL_law_1453 rfl rfl ?_
  refine v_iload (n := 1456) dL_law_1454 rfl rfl ?_
  refine v_iconst (n := 1457) (x := nI 2) dL_law_1456 rfl rfl ?_
  refine v_iadd (n := 1458) dL_law_1457 rfl ?_
  refine l_sld (n := 1459) (j := i + 2) dL_law_1458 rfl (nI_add i 2) (by omega) hL ?_
  refine v_callV0 (n := 1462) (k := 10) (b := 0) (i := 0) (As := [.int (xs (i + 1)), .int (xs (i + 2))]) (rest := []) dL_law_1459 rfl lk_L_212 rfl rfl (Nat.le_of_ble_eq_true rfl) ⟨Nat.le_of_ble_eq_true rfl, Nat.le_of_ble_eq_true rfl, hc, hs⟩ zokc_10 hlk hm (fun v μ2 hp => ?_) (fun _ _ hp => False.elim hp)
  obtain ⟨r', rfl, hI2, h6, hrr⟩ := hp
  have hI3 : Inv (ov μ1 μ2) (W + 64) := hI2.lk Lk.ovr
  have h63 : ov μ1 μ2 10 0 0 6 = nI k := (ov_lt (by decide)).trans h6
  show VW _ _ _ _ _ _ _ [.int r'] _ _ _
  refine v_istore (n := 1464) (L' := [(0, .ref b), (1, .ref (zad G.1 9 0 0)), (2, .ref (zad G.1 10 0 0)), (3, .ref (zad G.1 35 0 0)), (4, .ref (zad G.1 36 0 0)), (5, .int (nI i)), (6, .int (nI k)), (7, .int r')]) dL_law_1462 rfl (show 8 ≤ 9 by decide) rfl ?_
  refine v_aload_n (n := 1465) dL_law_1464 rfl rfl ?_
  refine v_callV (n := 1468) (k := 10) (b := 0) (i := 0) (As := []) (rest := []) dL_law_1465 rfl lk_L_153 rfl rfl (Nat.le_of_ble_eq_true rfl) ⟨Nat.le_of_ble_eq_true rfl, Nat.le_of_ble_eq_true rfl, hc, hs⟩ zokc_10 (wX8_thrown G (P := fun v μ9 => v = some (.int (nI k)) ∧ μ9 = ov μ1 μ2) (X := noX) (ov μ1 μ2) ⟨by rw [h63], rfl⟩) (fun v μ9 hp => ?_) (fun _ _ hp => False.elim hp)
  obtain ⟨rfl, rfl⟩ := hp
  show VW _ _ _ _ _ _ _ [.int (nI k)] _ _ _
  refine v_iload (n := 1470) dL_law_1468 rfl rfl ?_
  refine v_icmp_eq (n := 1473) (t := 1475) dL_law_1470 rfl (by decide) (fun _ => ?_) (fun z => absurd rfl z)
  refine v_iload (n := 1477) dL_law_1475 rfl rfl ?_
  have fin : VW G hh b L xs 1492 [(0, .ref b), (1, .ref (zad G.1 9 0 0)), (2, .ref (zad G.1 10 0 0)), (3, .ref (zad G.1 35 0 0)), (4, .ref (zad G.1 36 0 0)), (5, .int (nI i)), (6, .int (nI k)), (7, .int r')] [] (ov μ1 μ2) (cells + 1) (slots + 6) := v_goto (n := 2576) dL_law_1492 (by decide) (v_pick [0, 1, 2, 3, 4, 5] rfl (K _ hI3))
  refine v_if_ne (n := 1480) (t := 1492) dL_law_1477 rfl (by decide) (fun _ => fin) (fun z => ?_)
  have hk0 := nI0_of hk4 z
  refine v_aload_n (n := 1481) dL_law_1480 rfl rfl ?_
  refine v_iconst (n := 1482) (x := nI 0) dL_law_1481 rfl rfl ?_
  refine v_lald (n := 1483) (j := 0) (v := .long r.toInt64) dL_law_1482 rfl hG zokc_35 (by decide) rfl rfl (by decide) (by show Value.long (ov μ1 μ2 35 0 0 0).toInt64 = _; rw [ov_ge (Or.inl rfl), hr hk0]) ?_
  refine v_iload (n := 1485) dL_law_1483 rfl rfl ?_
  refine v_i2l (n := 1486) dL_law_1485 rfl ?_
  rw [hrr hk0]
  refine v_lcmp (n := 1487) dL_law_1486 rfl ?_
  rw [lg_self]
  exact v_if_eq (n := 1490) (t := 1492) dL_law_1487 rfl (by decide) (fun _ => by rw [hrr hk0] at fin; exact fin) (fun z => absurd rfl z)
theorem lc_advance (hG : G.2.2.2 = true) (hI : Inv μ W) (hi : i + 7 ≤ L) (hL : L ≤ 3584) (hW : W + 64 < 2 ^ 30) (hc : cells + 1 ≤ 603072) (hs : slots + 6 ≤ 7202922) (K : ∀ μ', Inv μ' (W + 64) → VW G hh b L xs 2576 (LB G b (nI i)) [] μ' (cells + 1) (slots + 6)) : VW G hh b L xs 1495 (LB G b (nI i)) [] μ cells slots := by
  refine v_aload_n (n := 1496) dL_law_1495 rfl rfl ?_
  refine v_aload_n (n := 1497) dL_law_1496 rfl rfl ?_
  refine v_iload (n := 1499) dL_law_1497 rfl rfl ?_
  refine v_iconst (n := 1500) (x := nI 1) dL_law_1499 rfl rfl ?_
  refine v_iadd (n := 1501) dL_law_1500 rfl ?_
  refine l_sld (n := 1502) (j := i + 1) dL_law_1501 rfl (nI_add i 1) (by omega) hL ?_
  refine v_aload_n (n := 1503) dL_law_1502 rfl rfl ?_
  refine v_callH (n := 1506) (As := [.ref (zad G.1 9 0 0), .int (xs (i + 1)), .ref (zad G.1 35 0 0)]) (rest := []) dL_law_1503 rfl lk_L_213 rfl rfl (Nat.le_of_ble_eq_true rfl) ⟨Nat.le_of_ble_eq_true rfl, Nat.le_of_ble_eq_true rfl, hc, hs⟩ (lw_advance hG ((xs (i + 1))) (op_advance (offG G) hI (by omega) ((xs (i + 1))))) (fun v μ1 hp => ?_) (fun _ _ hp => False.elim hp)
  obtain ⟨k, r, μ0, hk4, rfl, hlk, hm, hr⟩ := hp
  show VW _ _ _ _ _ _ _ [.int (nI k)] _ _ _
  refine v_istore (n := 1508) (L' := [(0, .ref b), (1, .ref (zad G.1 9 0 0)), (2, .ref (zad G.1 10 0 0)), (3, .ref (zad G.1 35 0 0)), (4, .ref (zad G.1 36 0 0)), (5, .int (nI i)), (6, .int (nI k))]) dL_law_1506 rfl (show 7 ≤ 9 by decide) rfl ?_
  refine v_aload_n (n := 1509) dL_law_1508 rfl rfl ?_
  refine v_aload_n (n := 1510) dL_law_1509 rfl rfl ?_
  refine v_iload (n := 1512) dL_law_1510 rfl rfl ?_
  refine v_iconst (n := 1513) (x := nI 1) dL_law_1512 rfl rfl ?_
  refine v_iadd (n := 1514) dL_law_1513 rfl ?_
  refine l_sld (n := 1515) (j := i + 1) dL_law_1514 rfl (nI_add i 1) (by omega) hL ?_
  refine v_callV0 (n := 1518) (k := 10) (b := 0) (i := 0) (As := [.int (xs (i + 1))]) (rest := []) dL_law_1515 rfl lk_L_215 rfl rfl (Nat.le_of_ble_eq_true rfl) ⟨Nat.le_of_ble_eq_true rfl, Nat.le_of_ble_eq_true rfl, hc, hs⟩ zokc_10 hlk hm (fun v μ2 hp => ?_) (fun _ _ hp => False.elim hp)
  obtain ⟨r', rfl, hI2, h6, hrr⟩ := hp
  have hI3 : Inv (ov μ1 μ2) (W + 64) := hI2.lk Lk.ovr
  have h63 : ov μ1 μ2 10 0 0 6 = nI k := (ov_lt (by decide)).trans h6
  show VW _ _ _ _ _ _ _ [.int r'] _ _ _
  refine v_istore (n := 1520) (L' := [(0, .ref b), (1, .ref (zad G.1 9 0 0)), (2, .ref (zad G.1 10 0 0)), (3, .ref (zad G.1 35 0 0)), (4, .ref (zad G.1 36 0 0)), (5, .int (nI i)), (6, .int (nI k)), (7, .int r')]) dL_law_1518 rfl (show 8 ≤ 9 by decide) rfl ?_
  refine v_aload_n (n := 1521) dL_law_1520 rfl rfl ?_
  refine v_callV (n := 1524) (k := 10) (b := 0) (i := 0) (As := []) (rest := []) dL_law_1521 rfl lk_L_153 rfl rfl (Nat.le_of_ble_eq_true rfl) ⟨Nat.le_of_ble_eq_true rfl, Nat.le_of_ble_eq_true rfl, hc, hs⟩ zokc_10 (wX8_thrown G (P := fun v μ9 => v = some (.int (nI k)) ∧ μ9 = ov μ1 μ2) (X := noX) (ov μ1 μ2) ⟨by rw [h63], rfl⟩) (fun v μ9 hp => ?_) (fun _ _ hp => False.elim hp)
  obtain ⟨rfl, rfl⟩ := hp
  show VW _ _ _ _ _ _ _ [.int (nI k)] _ _ _
  refine v_iload (n := 1526) dL_law_1524 rfl rfl ?_
  refine v_icmp_eq (n := 1529) (t := 1531) dL_law_1526 rfl (by decide) (fun _ => ?_) (fun z => absurd rfl z)
  refine v_iload (n := 1533) dL_law_1531 rfl rfl ?_
  have fin : VW G hh b L xs 1548 [(0, .ref b), (1, .ref (zad G.1 9 0 0)), (2, .ref (zad G.1 10 0 0)), (3, .ref (zad G.1 35 0 0)), (4, .ref (zad G.1 36 0 0)), (5, .int (nI i)), (6, .int (nI k)), (7, .int r')] [] (ov μ1 μ2) (cells + 1) (slots + 6) := v_goto (n := 2576) dL_law_1548 (by decide) (v_pick [0, 1, 2, 3, 4, 5] rfl (K _ hI3))
  refine v_if_ne (n := 1536) (t := 1548) dL_law_1533 rfl (by decide) (fun _ => fin) (fun z => ?_)
  have hk0 := nI0_of hk4 z
  refine v_aload_n (n := 1537) dL_law_1536 rfl rfl ?_
  refine v_iconst (n := 1538) (x := nI 0) dL_law_1537 rfl rfl ?_
  refine v_lald (n := 1539) (j := 0) (v := .long r.toInt64) dL_law_1538 rfl hG zokc_35 (by decide) rfl rfl (by decide) (by show Value.long (ov μ1 μ2 35 0 0 0).toInt64 = _; rw [ov_ge (Or.inl rfl), hr hk0]) ?_
  refine v_iload (n := 1541) dL_law_1539 rfl rfl ?_
  refine v_i2l (n := 1542) dL_law_1541 rfl ?_
  rw [hrr hk0]
  refine v_lcmp (n := 1543) dL_law_1542 rfl ?_
  rw [lg_self]
  exact v_if_eq (n := 1546) (t := 1548) dL_law_1543 rfl (by decide) (fun _ => by rw [hrr hk0] at fin; exact fin) (fun z => absurd rfl z)
theorem lc_endDay (hG : G.2.2.2 = true) (hI : Inv μ W) (hi : i + 7 ≤ L) (hL : L ≤ 3584) (hW : W + 64 < 2 ^ 30) (hc : cells + 1 ≤ 603072) (hs : slots + 6 ≤ 7202922) (K : ∀ μ', Inv μ' (W + 64) → VW G hh b L xs 2576 (LB G b (nI i)) [] μ' (cells + 1) (slots + 6)) : VW G hh b L xs 1551 (LB G b (nI i)) [] μ cells slots := by
  refine v_aload_n (n := 1552) dL_law_1551 rfl rfl ?_
  refine v_aload_n (n := 1553) dL_law_1552 rfl rfl ?_
  refine v_callH (n := 1556) (As := [.ref (zad G.1 9 0 0), .ref (zad G.1 35 0 0)]) (rest := []) dL_law_1553 rfl lk_L_216 rfl rfl (Nat.le_of_ble_eq_true rfl) ⟨Nat.le_of_ble_eq_true rfl, Nat.le_of_ble_eq_true rfl, hc, hs⟩ (lw_endDay hG (op_endDay (offG G) hI )) (fun v μ1 hp => ?_) (fun _ _ hp => False.elim hp)
  obtain ⟨k, r, μ0, hk4, rfl, hlk, hm, hr⟩ := hp
  show VW _ _ _ _ _ _ _ [.int (nI k)] _ _ _
  refine v_istore (n := 1558) (L' := [(0, .ref b), (1, .ref (zad G.1 9 0 0)), (2, .ref (zad G.1 10 0 0)), (3, .ref (zad G.1 35 0 0)), (4, .ref (zad G.1 36 0 0)), (5, .int (nI i)), (6, .int (nI k))]) dL_law_1556 rfl (show 7 ≤ 9 by decide) rfl ?_
  refine v_aload_n (n := 1559) dL_law_1558 rfl rfl ?_
  refine v_callV0 (n := 1562) (k := 10) (b := 0) (i := 0) (As := []) (rest := []) dL_law_1559 rfl lk_L_218 rfl rfl (Nat.le_of_ble_eq_true rfl) ⟨Nat.le_of_ble_eq_true rfl, Nat.le_of_ble_eq_true rfl, hc, hs⟩ zokc_10 hlk hm (fun v μ2 hp => ?_) (fun _ _ hp => False.elim hp)
  obtain ⟨r', rfl, hI2, h6, hrr⟩ := hp
  have hI3 : Inv (ov μ1 μ2) (W + 64) := hI2.lk Lk.ovr
  have h63 : ov μ1 μ2 10 0 0 6 = nI k := (ov_lt (by decide)).trans h6
  show VW _ _ _ _ _ _ _ [.int r'] _ _ _
  refine v_istore (n := 1564) (L' := [(0, .ref b), (1, .ref (zad G.1 9 0 0)), (2, .ref (zad G.1 10 0 0)), (3, .ref (zad G.1 35 0 0)), (4, .ref (zad G.1 36 0 0)), (5, .int (nI i)), (6, .int (nI k)), (7, .int r')]) dL_law_1562 rfl (show 8 ≤ 9 by decide) rfl ?_
  refine v_aload_n (n := 1565) dL_law_1564 rfl rfl ?_
  refine v_callV (n := 1568) (k := 10) (b := 0) (i := 0) (As := []) (rest := []) dL_law_1565 rfl lk_L_153 rfl rfl (Nat.le_of_ble_eq_true rfl) ⟨Nat.le_of_ble_eq_true rfl, Nat.le_of_ble_eq_true rfl, hc, hs⟩ zokc_10 (wX8_thrown G (P := fun v μ9 => v = some (.int (nI k)) ∧ μ9 = ov μ1 μ2) (X := noX) (ov μ1 μ2) ⟨by rw [h63], rfl⟩) (fun v μ9 hp => ?_) (fun _ _ hp => False.elim hp)
  obtain ⟨rfl, rfl⟩ := hp
  show VW _ _ _ _ _ _ _ [.int (nI k)] _ _ _
  refine v_iload (n := 1570) dL_law_1568 rfl rfl ?_
  refine v_icmp_eq (n := 1573) (t := 1575) dL_law_1570 rfl (by decide) (fun _ => ?_) (fun z => absurd rfl z)
  refine v_iload (n := 1577) dL_law_1575 rfl rfl ?_
  have fin : VW G hh b L xs 1592 [(0, .ref b), (1, .ref (zad G.1 9 0 0)), (2, .ref (zad G.1 10 0 0)), (3, .ref (zad G.1 35 0 0)), (4, .ref (zad G.1 36 0 0)), (5, .int (nI i)), (6, .int (nI k)), (7, .int r')] [] (ov μ1 μ2) (cells + 1) (slots + 6) := v_goto (n := 2576) dL_law_1592 (by decide) (v_pick [0, 1, 2, 3, 4, 5] rfl (K _ hI3))
  refine v_if_ne (n := 1580) (t := 1592) dL_law_1577 rfl (by decide) (fun _ => fin) (fun z => ?_)
  have hk0 := nI0_of hk4 z
  refine v_aload_n (n := 1581) dL_law_1580 rfl rfl ?_
  refine v_iconst (n := 1582) (x := nI 0) dL_law_1581 rfl rfl ?_
  refine v_lald (n := 1583) (j := 0) (v := .long r.toInt64) dL_law_1582 rfl hG zokc_35 (by decide) rfl rfl (by decide) (by show Value.long (ov μ1 μ2 35 0 0 0).toInt64 = _; rw [ov_ge (Or.inl rfl), hr hk0]) ?_
  refine v_iload (n := 1585) dL_law_1583 rfl rfl ?_
  refine v_i2l (n := 1586) dL_law_1585 rfl ?_
  rw [hrr hk0]
  refine v_lcmp (n := 1587) dL_law_1586 rfl ?_
  rw [lg_self]
  exact v_if_eq (n := 1590) (t := 1592) dL_law_1587 rfl (by decide) (fun _ => by rw [hrr hk0] at fin; exact fin) (fun z => absurd rfl z)
theorem lc_arrival (hG : G.2.2.2 = true) (hI : Inv μ W) (hi : i + 7 ≤ L) (hL : L ≤ 3584) (hW : W + 64 < 2 ^ 30) (hc : cells + 1 ≤ 603072) (hs : slots + 6 ≤ 7202922) (K : ∀ μ', Inv μ' (W + 64) → VW G hh b L xs 2576 (LB G b (nI i)) [] μ' (cells + 1) (slots + 6)) : VW G hh b L xs 1595 (LB G b (nI i)) [] μ cells slots := by
  refine v_aload_n (n := 1596) dL_law_1595 rfl rfl ?_
  refine v_aload_n (n := 1597) dL_law_1596 rfl rfl ?_
  refine v_iload (n := 1599) dL_law_1597 rfl rfl ?_
  refine v_iconst (n := 1600) (x := nI 1) dL_law_1599 rfl rfl ?_
  refine v_iadd (n := 1601) dL_law_1600 rfl ?_
  refine l_sld (n := 1602) (j := i + 1) dL_law_1601 rfl (nI_add i 1) (by omega) hL ?_
  refine v_aload_n (n := 1603) dL_law_1602 rfl rfl ?_
  refine v_callH (n := 1606) (As := [.ref (zad G.1 9 0 0), .int (xs (i + 1)), .ref (zad G.1 35 0 0)]) (rest := []) dL_law_1603 rfl lk_L_219 rfl rfl (Nat.le_of_ble_eq_true rfl) ⟨Nat.le_of_ble_eq_true rfl, Nat.le_of_ble_eq_true rfl, hc, hs⟩ (lw_arrival hG ((xs (i + 1))) (op_arrival (offG G) hI (by omega) ((xs (i + 1))))) (fun v μ1 hp => ?_) (fun _ _ hp => False.elim hp)
  obtain ⟨k, r, μ0, hk4, rfl, hlk, hm, hr⟩ := hp
  show VW _ _ _ _ _ _ _ [.int (nI k)] _ _ _
  refine v_istore (n := 1608) (L' := [(0, .ref b), (1, .ref (zad G.1 9 0 0)), (2, .ref (zad G.1 10 0 0)), (3, .ref (zad G.1 35 0 0)), (4, .ref (zad G.1 36 0 0)), (5, .int (nI i)), (6, .int (nI k))]) dL_law_1606 rfl (show 7 ≤ 9 by decide) rfl ?_
  refine v_aload_n (n := 1609) dL_law_1608 rfl rfl ?_
  refine v_aload_n (n := 1610) dL_law_1609 rfl rfl ?_
  refine v_iload (n := 1612) dL_law_1610 rfl rfl ?_
  refine v_iconst (n := 1613) (x := nI 1) dL_law_1612 rfl rfl ?_
  refine v_iadd (n := 1614) dL_law_1613 rfl ?_
  refine l_sld (n := 1615) (j := i + 1) dL_law_1614 rfl (nI_add i 1) (by omega) hL ?_
  refine v_callV0 (n := 1618) (k := 10) (b := 0) (i := 0) (As := [.int (xs (i + 1))]) (rest := []) dL_law_1615 rfl lk_L_221 rfl rfl (Nat.le_of_ble_eq_true rfl) ⟨Nat.le_of_ble_eq_true rfl, Nat.le_of_ble_eq_true rfl, hc, hs⟩ zokc_10 hlk hm (fun v μ2 hp => ?_) (fun _ _ hp => False.elim hp)
  obtain ⟨r', rfl, hI2, h6, hrr⟩ := hp
  have hI3 : Inv (ov μ1 μ2) (W + 64) := hI2.lk Lk.ovr
  have h63 : ov μ1 μ2 10 0 0 6 = nI k := (ov_lt (by decide)).trans h6
  show VW _ _ _ _ _ _ _ [.int r'] _ _ _
  refine v_istore (n := 1620) (L' := [(0, .ref b), (1, .ref (zad G.1 9 0 0)), (2, .ref (zad G.1 10 0 0)), (3, .ref (zad G.1 35 0 0)), (4, .ref (zad G.1 36 0 0)), (5, .int (nI i)), (6, .int (nI k)), (7, .int r')]) dL_law_1618 rfl (show 8 ≤ 9 by decide) rfl ?_
  refine v_aload_n (n := 1621) dL_law_1620 rfl rfl ?_
  refine v_callV (n := 1624) (k := 10) (b := 0) (i := 0) (As := []) (rest := []) dL_law_1621 rfl lk_L_153 rfl rfl (Nat.le_of_ble_eq_true rfl) ⟨Nat.le_of_ble_eq_true rfl, Nat.le_of_ble_eq_true rfl, hc, hs⟩ zokc_10 (wX8_thrown G (P := fun v μ9 => v = some (.int (nI k)) ∧ μ9 = ov μ1 μ2) (X := noX) (ov μ1 μ2) ⟨by rw [h63], rfl⟩) (fun v μ9 hp => ?_) (fun _ _ hp => False.elim hp)
  obtain ⟨rfl, rfl⟩ := hp
  show VW _ _ _ _ _ _ _ [.int (nI k)] _ _ _
  refine v_iload (n := 1626) dL_law_1624 rfl rfl ?_
  refine v_icmp_eq (n := 1629) (t := 1631) dL_law_1626 rfl (by decide) (fun _ => ?_) (fun z => absurd rfl z)
  refine v_iload (n := 1633) dL_law_1631 rfl rfl ?_
  have fin : VW G hh b L xs 1648 [(0, .ref b), (1, .ref (zad G.1 9 0 0)), (2, .ref (zad G.1 10 0 0)), (3, .ref (zad G.1 35 0 0)), (4, .ref (zad G.1 36 0 0)), (5, .int (nI i)), (6, .int (nI k)), (7, .int r')] [] (ov μ1 μ2) (cells + 1) (slots + 6) := v_goto (n := 2576) dL_law_1648 (by decide) (v_pick [0, 1, 2, 3, 4, 5] rfl (K _ hI3))
  refine v_if_ne (n := 1636) (t := 1648) dL_law_1633 rfl (by decide) (fun _ => fin) (fun z => ?_)
  have hk0 := nI0_of hk4 z
  refine v_aload_n (n := 1637) dL_law_1636 rfl rfl ?_
  refine v_iconst (n := 1638) (x := nI 0) dL_law_1637 rfl rfl ?_
  refine v_lald (n := 1639) (j := 0) (v := .long r.toInt64) dL_law_1638 rfl hG zokc_35 (by decide) rfl rfl (by decide) (by show Value.long (ov μ1 μ2 35 0 0 0).toInt64 = _; rw [ov_ge (Or.inl rfl), hr hk0]) ?_
  refine v_iload (n := 1641) dL_law_1639 rfl rfl ?_
  refine v_i2l (n := 1642) dL_law_1641 rfl ?_
  rw [hrr hk0]
  refine v_lcmp (n := 1643) dL_law_1642 rfl ?_
  rw [lg_self]
  exact v_if_eq (n := 1646) (t := 1648) dL_law_1643 rfl (by decide) (fun _ => by rw [hrr hk0] at fin; exact fin) (fun z => absurd rfl z)
theorem lc_nextCabin (hG : G.2.2.2 = true) (hI : Inv μ W) (hi : i + 7 ≤ L) (hL : L ≤ 3584) (hW : W + 64 < 2 ^ 30) (hc : cells + 1 ≤ 603072) (hs : slots + 6 ≤ 7202922) (K : ∀ μ', Inv μ' (W + 64) → VW G hh b L xs 2576 (LB G b (nI i)) [] μ' (cells + 1) (slots + 6)) : VW G hh b L xs 1651 (LB G b (nI i)) [] μ cells slots := by
  refine v_aload_n (n := 1652) dL_law_1651 rfl rfl ?_
  refine v_aload_n (n := 1653) dL_law_1652 rfl rfl ?_
  refine v_iload (n := 1655) dL_law_1653 rfl rfl ?_
  refine v_iconst (n := 1656) (x := nI 1) dL_law_1655 rfl rfl ?_
  refine v_iadd (n := 1657) dL_law_1656 rfl ?_
  refine l_sld (n := 1658) (j := i + 1) dL_law_1657 rfl (nI_add i 1) (by omega) hL ?_
  refine v_aload_n (n := 1659) dL_law_1658 rfl rfl ?_
  refine v_callH (n := 1662) (As := [.ref (zad G.1 9 0 0), .int (xs (i + 1)), .ref (zad G.1 35 0 0)]) (rest := []) dL_law_1659 rfl lk_L_222 rfl rfl (Nat.le_of_ble_eq_true rfl) ⟨Nat.le_of_ble_eq_true rfl, Nat.le_of_ble_eq_true rfl, hc, hs⟩ (lw_nextCabin hG ((xs (i + 1))) (op_nextCabin (offG G) hI ((xs (i + 1))))) (fun v μ1 hp => ?_) (fun _ _ hp => False.elim hp)
  obtain ⟨k, r, μ0, hk4, rfl, hlk, hm, hr⟩ := hp
  show VW _ _ _ _ _ _ _ [.int (nI k)] _ _ _
  refine v_istore (n := 1664) (L' := [(0, .ref b), (1, .ref (zad G.1 9 0 0)), (2, .ref (zad G.1 10 0 0)), (3, .ref (zad G.1 35 0 0)), (4, .ref (zad G.1 36 0 0)), (5, .int (nI i)), (6, .int (nI k))]) dL_law_1662 rfl (show 7 ≤ 9 by decide) rfl ?_
  refine v_aload_n (n := 1665) dL_law_1664 rfl rfl ?_
  refine v_aload_n (n := 1666) dL_law_1665 rfl rfl ?_
  refine v_iload (n := 1668) dL_law_1666 rfl rfl ?_
  refine v_iconst (n := 1669) (x := nI 1) dL_law_1668 rfl rfl ?_
  refine v_iadd (n := 1670) dL_law_1669 rfl ?_
  refine l_sld (n := 1671) (j := i + 1) dL_law_1670 rfl (nI_add i 1) (by omega) hL ?_
  refine v_callV0 (n := 1674) (k := 10) (b := 0) (i := 0) (As := [.int (xs (i + 1))]) (rest := []) dL_law_1671 rfl lk_L_224 rfl rfl (Nat.le_of_ble_eq_true rfl) ⟨Nat.le_of_ble_eq_true rfl, Nat.le_of_ble_eq_true rfl, hc, hs⟩ zokc_10 hlk hm (fun v μ2 hp => ?_) (fun _ _ hp => False.elim hp)
  obtain ⟨r', rfl, hI2, h6, hrr⟩ := hp
  have hI3 : Inv (ov μ1 μ2) (W + 64) := hI2.lk Lk.ovr
  have h63 : ov μ1 μ2 10 0 0 6 = nI k := (ov_lt (by decide)).trans h6
  show VW _ _ _ _ _ _ _ [.int r'] _ _ _
  refine v_istore (n := 1676) (L' := [(0, .ref b), (1, .ref (zad G.1 9 0 0)), (2, .ref (zad G.1 10 0 0)), (3, .ref (zad G.1 35 0 0)), (4, .ref (zad G.1 36 0 0)), (5, .int (nI i)), (6, .int (nI k)), (7, .int r')]) dL_law_1674 rfl (show 8 ≤ 9 by decide) rfl ?_
  refine v_aload_n (n := 1677) dL_law_1676 rfl rfl ?_
  refine v_callV (n := 1680) (k := 10) (b := 0) (i := 0) (As := []) (rest := []) dL_law_1677 rfl lk_L_153 rfl rfl (Nat.le_of_ble_eq_true rfl) ⟨Nat.le_of_ble_eq_true rfl, Nat.le_of_ble_eq_true rfl, hc, hs⟩ zokc_10 (wX8_thrown G (P := fun v μ9 => v = some (.int (nI k)) ∧ μ9 = ov μ1 μ2) (X := noX) (ov μ1 μ2) ⟨by rw [h63], rfl⟩) (fun v μ9 hp => ?_) (fun _ _ hp => False.elim hp)
  obtain ⟨rfl, rfl⟩ := hp
  show VW _ _ _ _ _ _ _ [.int (nI k)] _ _ _
  refine v_iload (n := 1682) dL_law_1680 rfl rfl ?_
  refine v_icmp_eq (n := 1685) (t := 1687) dL_law_1682 rfl (by decide) (fun _ => ?_) (fun z => absurd rfl z)
  refine v_iload (n := 1689) dL_law_1687 rfl rfl ?_
  have fin : VW G hh b L xs 1704 [(0, .ref b), (1, .ref (zad G.1 9 0 0)), (2, .ref (zad G.1 10 0 0)), (3, .ref (zad G.1 35 0 0)), (4, .ref (zad G.1 36 0 0)), (5, .int (nI i)), (6, .int (nI k)), (7, .int r')] [] (ov μ1 μ2) (cells + 1) (slots + 6) := v_goto (n := 2576) dL_law_1704 (by decide) (v_pick [0, 1, 2, 3, 4, 5] rfl (K _ hI3))
  refine v_if_ne (n := 1692) (t := 1704) dL_law_1689 rfl (by decide) (fun _ => fin) (fun z => ?_)
  have hk0 := nI0_of hk4 z
  refine v_aload_n (n := 1693) dL_law_1692 rfl rfl ?_
  refine v_iconst (n := 1694) (x := nI 0) dL_law_1693 rfl rfl ?_
  refine v_lald (n := 1695) (j := 0) (v := .long r.toInt64) dL_law_1694 rfl hG zokc_35 (by decide) rfl rfl (by decide) (by show Value.long (ov μ1 μ2 35 0 0 0).toInt64 = _; rw [ov_ge (Or.inl rfl), hr hk0]) ?_
  refine v_iload (n := 1697) dL_law_1695 rfl rfl ?_
  refine v_i2l (n := 1698) dL_law_1697 rfl ?_
  rw [hrr hk0]
  refine v_lcmp (n := 1699) dL_law_1698 rfl ?_
  rw [lg_self]
  exact v_if_eq (n := 1702) (t := 1704) dL_law_1699 rfl (by decide) (fun _ => by rw [hrr hk0] at fin; exact fin) (fun z => absurd rfl z)
theorem lc_duration (hG : G.2.2.2 = true) (hI : Inv μ W) (hi : i + 7 ≤ L) (hL : L ≤ 3584) (hW : W + 64 < 2 ^ 30) (hc : cells + 1 ≤ 603072) (hs : slots + 6 ≤ 7202922) (K : ∀ μ', Inv μ' (W + 64) → VW G hh b L xs 2576 (LB G b (nI i)) [] μ' (cells + 1) (slots + 6)) : VW G hh b L xs 1707 (LB G b (nI i)) [] μ cells slots := by
  refine v_aload_n (n := 1708) dL_law_1707 rfl rfl ?_
  refine v_aload_n (n := 1709) dL_law_1708 rfl rfl ?_
  refine v_iload (n := 1711) dL_law_1709 rfl rfl ?_
  refine v_iconst (n := 1712) (x := nI 1) dL_law_1711 rfl rfl ?_
  refine v_iadd (n := 1713) dL_law_1712 rfl ?_
  refine l_sld (n := 1714) (j := i + 1) dL_law_1713 rfl (nI_add i 1) (by omega) hL ?_
  refine v_aload_n (n := 1715) dL_law_1714 rfl rfl ?_
  refine v_iload (n := 1717) dL_law_1715 rfl rfl ?_
  refine v_iconst (n := 1718) (x := nI 2) dL_law_1717 rfl rfl ?_
  refine v_iadd (n := 1719) dL_law_1718 rfl ?_
  refine l_sld (n := 1720) (j := i + 2) dL_law_1719 rfl (nI_add i 2) (by omega) hL ?_
  refine v_aload_n (n := 1721) dL_law_1720 rfl rfl ?_
  refine v_iload (n := 1723) dL_law_1721 rfl rfl ?_
  refine v_iconst (n := 1724) (x := nI 3) dL_law_1723 rfl rfl ?_
  refine v_iadd (n := 1725) dL_law_1724 rfl ?_
  refine l_sld (n := 1726) (j := i + 3) dL_law_1725 rfl (nI_add i 3) (by omega) hL ?_
  refine v_aload_n (n := 1727) dL_law_1726 rfl rfl ?_
  refine v_callH (n := 1730) (As := [.ref (zad G.1 9 0 0), .int (xs (i + 1)), .int (xs (i + 2)), .int (xs (i + 3)), .ref (zad G.1 35 0 0)]) (rest := []) dL_law_1727 rfl lk_L_225 rfl rfl (Nat.le_of_ble_eq_true rfl) ⟨Nat.le_of_ble_eq_true rfl, Nat.le_of_ble_eq_true rfl, hc, hs⟩ (lw_duration hG ((xs (i + 1))) ((xs (i + 2))) ((xs (i + 3))) (op_duration (offG G) hI ((xs (i + 1))) ((xs (i + 2))) ((xs (i + 3))))) (fun v μ1 hp => ?_) (fun _ _ hp => False.elim hp)
  obtain ⟨k, r, μ0, hk4, rfl, hlk, hm, hr⟩ := hp
  show VW _ _ _ _ _ _ _ [.int (nI k)] _ _ _
  refine v_istore (n := 1732) (L' := [(0, .ref b), (1, .ref (zad G.1 9 0 0)), (2, .ref (zad G.1 10 0 0)), (3, .ref (zad G.1 35 0 0)), (4, .ref (zad G.1 36 0 0)), (5, .int (nI i)), (6, .int (nI k))]) dL_law_1730 rfl (show 7 ≤ 9 by decide) rfl ?_
  refine v_aload_n (n := 1733) dL_law_1732 rfl rfl ?_
  refine v_aload_n (n := 1734) dL_law_1733 rfl rfl ?_
  refine v_iload (n := 1736) dL_law_1734 rfl rfl ?_
  refine v_iconst (n := 1737) (x := nI 1) dL_law_1736 rfl rfl ?_
  refine v_iadd (n := 1738) dL_law_1737 rfl ?_
  refine l_sld (n := 1739) (j := i + 1) dL_law_1738 rfl (nI_add i 1) (by omega) hL ?_
  refine v_aload_n (n := 1740) dL_law_1739 rfl rfl ?_
  refine v_iload (n := 1742) dL_law_1740 rfl rfl ?_
  refine v_iconst (n := 1743) (x := nI 2) dL_law_1742 rfl rfl ?_
  refine v_iadd (n := 1744) dL_law_1743 rfl ?_
  refine l_sld (n := 1745) (j := i + 2) dL_law_1744 rfl (nI_add i 2) (by omega) hL ?_
  refine v_aload_n (n := 1746) dL_law_1745 rfl rfl ?_
  refine v_iload (n := 1748) dL_law_1746 rfl rfl ?_
  refine v_iconst (n := 1749) (x := nI 3) dL_law_1748 rfl rfl ?_
  refine v_iadd (n := 1750) dL_law_1749 rfl ?_
  refine l_sld (n := 1751) (j := i + 3) dL_law_1750 rfl (nI_add i 3) (by omega) hL ?_
  refine v_callV0 (n := 1754) (k := 10) (b := 0) (i := 0) (As := [.int (xs (i + 1)), .int (xs (i + 2)), .int (xs (i + 3))]) (rest := []) dL_law_1751 rfl lk_L_228 rfl rfl (Nat.le_of_ble_eq_true rfl) ⟨Nat.le_of_ble_eq_true rfl, Nat.le_of_ble_eq_true rfl, hc, hs⟩ zokc_10 hlk hm (fun v μ2 hp => ?_) (fun _ _ hp => False.elim hp)
  obtain ⟨r', rfl, hI2, h6, hrr⟩ := hp
  have hI3 : Inv (ov μ1 μ2) (W + 64) := hI2.lk Lk.ovr
  have h63 : ov μ1 μ2 10 0 0 6 = nI k := (ov_lt (by decide)).trans h6
  show VW _ _ _ _ _ _ _ [.int r'] _ _ _
  refine v_istore (n := 1756) (L' := [(0, .ref b), (1, .ref (zad G.1 9 0 0)), (2, .ref (zad G.1 10 0 0)), (3, .ref (zad G.1 35 0 0)), (4, .ref (zad G.1 36 0 0)), (5, .int (nI i)), (6, .int (nI k)), (7, .int r')]) dL_law_1754 rfl (show 8 ≤ 9 by decide) rfl ?_
  refine v_aload_n (n := 1757) dL_law_1756 rfl rfl ?_
  refine v_callV (n := 1760) (k := 10) (b := 0) (i := 0) (As := []) (rest := []) dL_law_1757 rfl lk_L_153 rfl rfl (Nat.le_of_ble_eq_true rfl) ⟨Nat.le_of_ble_eq_true rfl, Nat.le_of_ble_eq_true rfl, hc, hs⟩ zokc_10 (wX8_thrown G (P := fun v μ9 => v = some (.int (nI k)) ∧ μ9 = ov μ1 μ2) (X := noX) (ov μ1 μ2) ⟨by rw [h63], rfl⟩) (fun v μ9 hp => ?_) (fun _ _ hp => False.elim hp)
  obtain ⟨rfl, rfl⟩ := hp
  show VW _ _ _ _ _ _ _ [.int (nI k)] _ _ _
  refine v_iload (n := 1762) dL_law_1760 rfl rfl ?_
  refine v_icmp_eq (n := 1765) (t := 1767) dL_law_1762 rfl (by decide) (fun _ => ?_) (fun z => absurd rfl z)
  refine v_iload (n := 1769) dL_law_1767 rfl rfl ?_
  have fin : VW G hh b L xs 1784 [(0, .ref b), (1, .ref (zad G.1 9 0 0)), (2, .ref (zad G.1 10 0 0)), (3, .ref (zad G.1 35 0 0)), (4, .ref (zad G.1 36 0 0)), (5, .int (nI i)), (6, .int (nI k)), (7, .int r')] [] (ov μ1 μ2) (cells + 1) (slots + 6) := v_goto (n := 2576) dL_law_1784 (by decide) (v_pick [0, 1, 2, 3, 4, 5] rfl (K _ hI3))
  refine v_if_ne (n := 1772) (t := 1784) dL_law_1769 rfl (by decide) (fun _ => fin) (fun z => ?_)
  have hk0 := nI0_of hk4 z
  refine v_aload_n (n := 1773) dL_law_1772 rfl rfl ?_
  refine v_iconst (n := 1774) (x := nI 0) dL_law_1773 rfl rfl ?_
  refine v_lald (n := 1775) (j := 0) (v := .long r.toInt64) dL_law_1774 rfl hG zokc_35 (by decide) rfl rfl (by decide) (by show Value.long (ov μ1 μ2 35 0 0 0).toInt64 = _; rw [ov_ge (Or.inl rfl), hr hk0]) ?_
  refine v_iload (n := 1777) dL_law_1775 rfl rfl ?_
  refine v_i2l (n := 1778) dL_law_1777 rfl ?_
  rw [hrr hk0]
  refine v_lcmp (n := 1779) dL_law_1778 rfl ?_
  rw [lg_self]
  exact v_if_eq (n := 1782) (t := 1784) dL_law_1779 rfl (by decide) (fun _ => by rw [hrr hk0] at fin; exact fin) (fun z => absurd rfl z)
theorem lc_firstPart (hG : G.2.2.2 = true) (hI : Inv μ W) (hi : i + 7 ≤ L) (hL : L ≤ 3584) (hW : W + 64 < 2 ^ 30) (hc : cells + 1 ≤ 603072) (hs : slots + 6 ≤ 7202922) (K : ∀ μ', Inv μ' (W + 64) → VW G hh b L xs 2576 (LB G b (nI i)) [] μ' (cells + 1) (slots + 6)) : VW G hh b L xs 1787 (LB G b (nI i)) [] μ cells slots := by
  refine v_aload_n (n := 1788) dL_law_1787 rfl rfl ?_
  refine v_aload_n (n := 1789) dL_law_1788 rfl rfl ?_
  refine v_iload (n := 1791) dL_law_1789 rfl rfl ?_
  refine v_iconst (n := 1792) (x := nI 1) dL_law_1791 rfl rfl ?_
  refine v_iadd (n := 1793) dL_law_1792 rfl ?_
  refine l_sld (n := 1794) (j := i + 1) dL_law_1793 rfl (nI_add i 1) (by omega) hL ?_
  refine v_aload_n (n := 1795) dL_law_1794 rfl rfl ?_
  refine v_iload (n := 1797) dL_law_1795 rfl rfl ?_
  refine v_iconst (n := 1798) (x := nI 2) dL_law_1797 rfl rfl ?_
  refine v_iadd (n := 1799) dL_law_1798 rfl ?_
  refine l_sld (n := 1800) (j := i + 2) dL_law_1799 rfl (nI_add i 2) (by omega) hL ?_
  refine v_aload_n (n := 1801) dL_law_1800 rfl rfl ?_
  refine v_iload (n := 1803) dL_law_1801 rfl rfl ?_
  refine v_iconst (n := 1804) (x := nI 3) dL_law_1803 rfl rfl ?_
  refine v_iadd (n := 1805) dL_law_1804 rfl ?_
  refine l_sld (n := 1806) (j := i + 3) dL_law_1805 rfl (nI_add i 3) (by omega) hL ?_
  refine v_aload_n (n := 1807) dL_law_1806 rfl rfl ?_
  refine v_callH (n := 1810) (As := [.ref (zad G.1 9 0 0), .int (xs (i + 1)), .int (xs (i + 2)), .int (xs (i + 3)), .ref (zad G.1 35 0 0)]) (rest := []) dL_law_1807 rfl lk_L_229 rfl rfl (Nat.le_of_ble_eq_true rfl) ⟨Nat.le_of_ble_eq_true rfl, Nat.le_of_ble_eq_true rfl, hc, hs⟩ (lw_firstPart hG ((xs (i + 1))) ((xs (i + 2))) ((xs (i + 3))) (op_firstPart (offG G) hI ((xs (i + 1))) ((xs (i + 2))) ((xs (i + 3))))) (fun v μ1 hp => ?_) (fun _ _ hp => False.elim hp)
  obtain ⟨k, r, μ0, hk4, rfl, hlk, hm, hr⟩ := hp
  show VW _ _ _ _ _ _ _ [.int (nI k)] _ _ _
  refine v_istore (n := 1812) (L' := [(0, .ref b), (1, .ref (zad G.1 9 0 0)), (2, .ref (zad G.1 10 0 0)), (3, .ref (zad G.1 35 0 0)), (4, .ref (zad G.1 36 0 0)), (5, .int (nI i)), (6, .int (nI k))]) dL_law_1810 rfl (show 7 ≤ 9 by decide) rfl ?_
  refine v_aload_n (n := 1813) dL_law_1812 rfl rfl ?_
  refine v_aload_n (n := 1814) dL_law_1813 rfl rfl ?_
  refine v_iload (n := 1816) dL_law_1814 rfl rfl ?_
  refine v_iconst (n := 1817) (x := nI 1) dL_law_1816 rfl rfl ?_
  refine v_iadd (n := 1818) dL_law_1817 rfl ?_
  refine l_sld (n := 1819) (j := i + 1) dL_law_1818 rfl (nI_add i 1) (by omega) hL ?_
  refine v_aload_n (n := 1820) dL_law_1819 rfl rfl ?_
  refine v_iload (n := 1822) dL_law_1820 rfl rfl ?_
  refine v_iconst (n := 1823) (x := nI 2) dL_law_1822 rfl rfl ?_
  refine v_iadd (n := 1824) dL_law_1823 rfl ?_
  refine l_sld (n := 1825) (j := i + 2) dL_law_1824 rfl (nI_add i 2) (by omega) hL ?_
  refine v_aload_n (n := 1826) dL_law_1825 rfl rfl ?_
  refine v_iload (n := 1828) dL_law_1826 rfl rfl ?_
  refine v_iconst (n := 1829) (x := nI 3) dL_law_1828 rfl rfl ?_
  refine v_iadd (n := 1830) dL_law_1829 rfl ?_
  refine l_sld (n := 1831) (j := i + 3) dL_law_1830 rfl (nI_add i 3) (by omega) hL ?_
  refine v_callV0 (n := 1834) (k := 10) (b := 0) (i := 0) (As := [.int (xs (i + 1)), .int (xs (i + 2)), .int (xs (i + 3))]) (rest := []) dL_law_1831 rfl lk_L_231 rfl rfl (Nat.le_of_ble_eq_true rfl) ⟨Nat.le_of_ble_eq_true rfl, Nat.le_of_ble_eq_true rfl, hc, hs⟩ zokc_10 hlk hm (fun v μ2 hp => ?_) (fun _ _ hp => False.elim hp)
  obtain ⟨r', rfl, hI2, h6, hrr⟩ := hp
  have hI3 : Inv (ov μ1 μ2) (W + 64) := hI2.lk Lk.ovr
  have h63 : ov μ1 μ2 10 0 0 6 = nI k := (ov_lt (by decide)).trans h6
  show VW _ _ _ _ _ _ _ [.int r'] _ _ _
  refine v_istore (n := 1836) (L' := [(0, .ref b), (1, .ref (zad G.1 9 0 0)), (2, .ref (zad G.1 10 0 0)), (3, .ref (zad G.1 35 0 0)), (4, .ref (zad G.1 36 0 0)), (5, .int (nI i)), (6, .int (nI k)), (7, .int r')]) dL_law_1834 rfl (show 8 ≤ 9 by decide) rfl ?_
  refine v_aload_n (n := 1837) dL_law_1836 rfl rfl ?_
  refine v_callV (n := 1840) (k := 10) (b := 0) (i := 0) (As := []) (rest := []) dL_law_1837 rfl lk_L_153 rfl rfl (Nat.le_of_ble_eq_true rfl) ⟨Nat.le_of_ble_eq_true rfl, Nat.le_of_ble_eq_true rfl, hc, hs⟩ zokc_10 (wX8_thrown G (P := fun v μ9 => v = some (.int (nI k)) ∧ μ9 = ov μ1 μ2) (X := noX) (ov μ1 μ2) ⟨by rw [h63], rfl⟩) (fun v μ9 hp => ?_) (fun _ _ hp => False.elim hp)
  obtain ⟨rfl, rfl⟩ := hp
  show VW _ _ _ _ _ _ _ [.int (nI k)] _ _ _
  refine v_iload (n := 1842) dL_law_1840 rfl rfl ?_
  refine v_icmp_eq (n := 1845) (t := 1847) dL_law_1842 rfl (by decide) (fun _ => ?_) (fun z => absurd rfl z)
  refine v_iload (n := 1849) dL_law_1847 rfl rfl ?_
  have fin : VW G hh b L xs 1864 [(0, .ref b), (1, .ref (zad G.1 9 0 0)), (2, .ref (zad G.1 10 0 0)), (3, .ref (zad G.1 35 0 0)), (4, .ref (zad G.1 36 0 0)), (5, .int (nI i)), (6, .int (nI k)), (7, .int r')] [] (ov μ1 μ2) (cells + 1) (slots + 6) := v_goto (n := 2576) dL_law_1864 (by decide) (v_pick [0, 1, 2, 3, 4, 5] rfl (K _ hI3))
  refine v_if_ne (n := 1852) (t := 1864) dL_law_1849 rfl (by decide) (fun _ => fin) (fun z => ?_)
  have hk0 := nI0_of hk4 z
  refine v_aload_n (n := 1853) dL_law_1852 rfl rfl ?_
  refine v_iconst (n := 1854) (x := nI 0) dL_law_1853 rfl rfl ?_
  refine v_lald (n := 1855) (j := 0) (v := .long r.toInt64) dL_law_1854 rfl hG zokc_35 (by decide) rfl rfl (by decide) (by show Value.long (ov μ1 μ2 35 0 0 0).toInt64 = _; rw [ov_ge (Or.inl rfl), hr hk0]) ?_
  refine v_iload (n := 1857) dL_law_1855 rfl rfl ?_
  refine v_i2l (n := 1858) dL_law_1857 rfl ?_
  rw [hrr hk0]
  refine v_lcmp (n := 1859) dL_law_1858 rfl ?_
  rw [lg_self]
  exact v_if_eq (n := 1862) (t := 1864) dL_law_1859 rfl (by decide) (fun _ => by rw [hrr hk0] at fin; exact fin) (fun z => absurd rfl z)
theorem lc_reachable (hG : G.2.2.2 = true) (hI : Inv μ W) (hi : i + 7 ≤ L) (hL : L ≤ 3584) (hW : W + 64 < 2 ^ 30) (hc : cells + 1 ≤ 603072) (hs : slots + 6 ≤ 7202922) (K : ∀ μ', Inv μ' (W + 64) → VW G hh b L xs 2576 (LB G b (nI i)) [] μ' (cells + 1) (slots + 6)) : VW G hh b L xs 1867 (LB G b (nI i)) [] μ cells slots := by
  refine v_aload_n (n := 1868) dL_law_1867 rfl rfl ?_
  refine v_aload_n (n := 1869) dL_law_1868 rfl rfl ?_
  refine v_iload (n := 1871) dL_law_1869 rfl rfl ?_
  refine v_iconst (n := 1872) (x := nI 1) dL_law_1871 rfl rfl ?_
  refine v_iadd (n := 1873) dL_law_1872 rfl ?_
  refine l_sld (n := 1874) (j := i + 1) dL_law_1873 rfl (nI_add i 1) (by omega) hL ?_
  refine v_aload_n (n := 1875) dL_law_1874 rfl rfl ?_
  refine v_iload (n := 1877) dL_law_1875 rfl rfl ?_
  refine v_iconst (n := 1878) (x := nI 2) dL_law_1877 rfl rfl ?_
  refine v_iadd (n := 1879) dL_law_1878 rfl ?_
  refine l_sld (n := 1880) (j := i + 2) dL_law_1879 rfl (nI_add i 2) (by omega) hL ?_
  refine v_aload_n (n := 1881) dL_law_1880 rfl rfl ?_
  refine v_callH (n := 1884) (As := [.ref (zad G.1 9 0 0), .int (xs (i + 1)), .int (xs (i + 2)), .ref (zad G.1 35 0 0)]) (rest := []) dL_law_1881 rfl lk_L_232 rfl rfl (Nat.le_of_ble_eq_true rfl) ⟨Nat.le_of_ble_eq_true rfl, Nat.le_of_ble_eq_true rfl, hc, hs⟩ (lw_reachable hG ((xs (i + 1))) ((xs (i + 2))) (op_reachable (offG G) hI ((xs (i + 1))) ((xs (i + 2))))) (fun v μ1 hp => ?_) (fun _ _ hp => False.elim hp)
  obtain ⟨k, r, μ0, hk4, rfl, hlk, hm, hr⟩ := hp
  show VW _ _ _ _ _ _ _ [.int (nI k)] _ _ _
  refine v_istore (n := 1886) (L' := [(0, .ref b), (1, .ref (zad G.1 9 0 0)), (2, .ref (zad G.1 10 0 0)), (3, .ref (zad G.1 35 0 0)), (4, .ref (zad G.1 36 0 0)), (5, .int (nI i)), (6, .int (nI k))]) dL_law_1884 rfl (show 7 ≤ 9 by decide) rfl ?_
  refine v_aload_n (n := 1887) dL_law_1886 rfl rfl ?_
  refine v_aload_n (n := 1888) dL_law_1887 rfl rfl ?_
  refine v_iload (n := 1890) dL_law_1888 rfl rfl ?_
  refine v_iconst (n := 1891) (x := nI 1) dL_law_1890 rfl rfl ?_
  refine v_iadd (n := 1892) dL_law_1891 rfl ?_
  refine l_sld (n := 1893) (j := i + 1) dL_law_1892 rfl (nI_add i 1) (by omega) hL ?_
  refine v_aload_n (n := 1894) dL_law_1893 rfl rfl ?_
  refine v_iload (n := 1896) dL_law_1894 rfl rfl ?_
  refine v_iconst (n := 1897) (x := nI 2) dL_law_1896 rfl rfl ?_
  refine v_iadd (n := 1898) dL_law_1897 rfl ?_
  refine l_sld (n := 1899) (j := i + 2) dL_law_1898 rfl (nI_add i 2) (by omega) hL ?_
  refine v_callV0 (n := 1902) (k := 10) (b := 0) (i := 0) (As := [.int (xs (i + 1)), .int (xs (i + 2))]) (rest := []) dL_law_1899 rfl lk_L_234 rfl rfl (Nat.le_of_ble_eq_true rfl) ⟨Nat.le_of_ble_eq_true rfl, Nat.le_of_ble_eq_true rfl, hc, hs⟩ zokc_10 hlk hm (fun v μ2 hp => ?_) (fun _ _ hp => False.elim hp)
  obtain ⟨r', rfl, hI2, h6, hrr⟩ := hp
  have hI3 : Inv (ov μ1 μ2) (W + 64) := hI2.lk Lk.ovr
  have h63 : ov μ1 μ2 10 0 0 6 = nI k := (ov_lt (by decide)).trans h6
  show VW _ _ _ _ _ _ _ [.int r'] _ _ _
  refine v_istore (n := 1904) (L' := [(0, .ref b), (1, .ref (zad G.1 9 0 0)), (2, .ref (zad G.1 10 0 0)), (3, .ref (zad G.1 35 0 0)), (4, .ref (zad G.1 36 0 0)), (5, .int (nI i)), (6, .int (nI k)), (7, .int r')]) dL_law_1902 rfl (show 8 ≤ 9 by decide) rfl ?_
  refine v_aload_n (n := 1905) dL_law_1904 rfl rfl ?_
  refine v_callV (n := 1908) (k := 10) (b := 0) (i := 0) (As := []) (rest := []) dL_law_1905 rfl lk_L_153 rfl rfl (Nat.le_of_ble_eq_true rfl) ⟨Nat.le_of_ble_eq_true rfl, Nat.le_of_ble_eq_true rfl, hc, hs⟩ zokc_10 (wX8_thrown G (P := fun v μ9 => v = some (.int (nI k)) ∧ μ9 = ov μ1 μ2) (X := noX) (ov μ1 μ2) ⟨by rw [h63], rfl⟩) (fun v μ9 hp => ?_) (fun _ _ hp => False.elim hp)
  obtain ⟨rfl, rfl⟩ := hp
  show VW _ _ _ _ _ _ _ [.int (nI k)] _ _ _
  refine v_iload (n := 1910) dL_law_1908 rfl rfl ?_
  refine v_icmp_eq (n := 1913) (t := 1915) dL_law_1910 rfl (by decide) (fun _ => ?_) (fun z => absurd rfl z)
  refine v_iload (n := 1917) dL_law_1915 rfl rfl ?_
  have fin : VW G hh b L xs 1932 [(0, .ref b), (1, .ref (zad G.1 9 0 0)), (2, .ref (zad G.1 10 0 0)), (3, .ref (zad G.1 35 0 0)), (4, .ref (zad G.1 36 0 0)), (5, .int (nI i)), (6, .int (nI k)), (7, .int r')] [] (ov μ1 μ2) (cells + 1) (slots + 6) := v_goto (n := 2576) dL_law_1932 (by decide) (v_pick [0, 1, 2, 3, 4, 5] rfl (K _ hI3))
  refine v_if_ne (n := 1920) (t := 1932) dL_law_1917 rfl (by decide) (fun _ => fin) (fun z => ?_)
  have hk0 := nI0_of hk4 z
  refine v_aload_n (n := 1921) dL_law_1920 rfl rfl ?_
  refine v_iconst (n := 1922) (x := nI 0) dL_law_1921 rfl rfl ?_
  refine v_lald (n := 1923) (j := 0) (v := .long r.toInt64) dL_law_1922 rfl hG zokc_35 (by decide) rfl rfl (by decide) (by show Value.long (ov μ1 μ2 35 0 0 0).toInt64 = _; rw [ov_ge (Or.inl rfl), hr hk0]) ?_
  refine v_iload (n := 1925) dL_law_1923 rfl rfl ?_
  refine v_i2l (n := 1926) dL_law_1925 rfl ?_
  rw [hrr hk0]
  refine v_lcmp (n := 1927) dL_law_1926 rfl ?_
  rw [lg_self]
  exact v_if_eq (n := 1930) (t := 1932) dL_law_1927 rfl (by decide) (fun _ => by rw [hrr hk0] at fin; exact fin) (fun z => absurd rfl z)
theorem lc_stranded (hG : G.2.2.2 = true) (hI : Inv μ W) (hi : i + 7 ≤ L) (hL : L ≤ 3584) (hW : W + 64 < 2 ^ 30) (hc : cells + 1 ≤ 603072) (hs : slots + 6 ≤ 7202922) (K : ∀ μ', Inv μ' (W + 64) → VW G hh b L xs 2576 (LB G b (nI i)) [] μ' (cells + 1) (slots + 6)) : VW G hh b L xs 1935 (LB G b (nI i)) [] μ cells slots := by
  refine v_aload_n (n := 1936) dL_law_1935 rfl rfl ?_
  refine v_aload_n (n := 1937) dL_law_1936 rfl rfl ?_
  refine v_iload (n := 1939) dL_law_1937 rfl rfl ?_
  refine v_iconst (n := 1940) (x := nI 1) dL_law_1939 rfl rfl ?_
  refine v_iadd (n := 1941) dL_law_1940 rfl ?_
  refine l_sld (n := 1942) (j := i + 1) dL_law_1941 rfl (nI_add i 1) (by omega) hL ?_
  refine v_aload_n (n := 1943) dL_law_1942 rfl rfl ?_
  refine v_iload (n := 1945) dL_law_1943 rfl rfl ?_
  refine v_iconst (n := 1946) (x := nI 2) dL_law_1945 rfl rfl ?_
  refine v_iadd (n := 1947) dL_law_1946 rfl ?_
  refine l_sld (n := 1948) (j := i + 2) dL_law_1947 rfl (nI_add i 2) (by omega) hL ?_
  refine v_aload_n (n := 1949) dL_law_1948 rfl rfl ?_
  refine v_callH (n := 1952) (As := [.ref (zad G.1 9 0 0), .int (xs (i + 1)), .int (xs (i + 2)), .ref (zad G.1 35 0 0)]) (rest := []) dL_law_1949 rfl lk_L_235 rfl rfl (Nat.le_of_ble_eq_true rfl) ⟨Nat.le_of_ble_eq_true rfl, Nat.le_of_ble_eq_true rfl, hc, hs⟩ (lw_stranded hG ((xs (i + 1))) ((xs (i + 2))) (op_stranded (offG G) hI ((xs (i + 1))) ((xs (i + 2))))) (fun v μ1 hp => ?_) (fun _ _ hp => False.elim hp)
  obtain ⟨k, r, μ0, hk4, rfl, hlk, hm, hr⟩ := hp
  show VW _ _ _ _ _ _ _ [.int (nI k)] _ _ _
  refine v_istore (n := 1954) (L' := [(0, .ref b), (1, .ref (zad G.1 9 0 0)), (2, .ref (zad G.1 10 0 0)), (3, .ref (zad G.1 35 0 0)), (4, .ref (zad G.1 36 0 0)), (5, .int (nI i)), (6, .int (nI k))]) dL_law_1952 rfl (show 7 ≤ 9 by decide) rfl ?_
  refine v_aload_n (n := 1955) dL_law_1954 rfl rfl ?_
  refine v_aload_n (n := 1956) dL_law_1955 rfl rfl ?_
  refine v_iload (n := 1958) dL_law_1956 rfl rfl ?_
  refine v_iconst (n := 1959) (x := nI 1) dL_law_1958 rfl rfl ?_
  refine v_iadd (n := 1960) dL_law_1959 rfl ?_
  refine l_sld (n := 1961) (j := i + 1) dL_law_1960 rfl (nI_add i 1) (by omega) hL ?_
  refine v_aload_n (n := 1962) dL_law_1961 rfl rfl ?_
  refine v_iload (n := 1964) dL_law_1962 rfl rfl ?_
  refine v_iconst (n := 1965) (x := nI 2) dL_law_1964 rfl rfl ?_
  refine v_iadd (n := 1966) dL_law_1965 rfl ?_
  refine l_sld (n := 1967) (j := i + 2) dL_law_1966 rfl (nI_add i 2) (by omega) hL ?_
  refine v_callV0 (n := 1970) (k := 10) (b := 0) (i := 0) (As := [.int (xs (i + 1)), .int (xs (i + 2))]) (rest := []) dL_law_1967 rfl lk_L_237 rfl rfl (Nat.le_of_ble_eq_true rfl) ⟨Nat.le_of_ble_eq_true rfl, Nat.le_of_ble_eq_true rfl, hc, hs⟩ zokc_10 hlk hm (fun v μ2 hp => ?_) (fun _ _ hp => False.elim hp)
  obtain ⟨r', rfl, hI2, h6, hrr⟩ := hp
  have hI3 : Inv (ov μ1 μ2) (W + 64) := hI2.lk Lk.ovr
  have h63 : ov μ1 μ2 10 0 0 6 = nI k := (ov_lt (by decide)).trans h6
  show VW _ _ _ _ _ _ _ [.int r'] _ _ _
  refine v_istore (n := 1972) (L' := [(0, .ref b), (1, .ref (zad G.1 9 0 0)), (2, .ref (zad G.1 10 0 0)), (3, .ref (zad G.1 35 0 0)), (4, .ref (zad G.1 36 0 0)), (5, .int (nI i)), (6, .int (nI k)), (7, .int r')]) dL_law_1970 rfl (show 8 ≤ 9 by decide) rfl ?_
  refine v_aload_n (n := 1973) dL_law_1972 rfl rfl ?_
  refine v_callV (n := 1976) (k := 10) (b := 0) (i := 0) (As := []) (rest := []) dL_law_1973 rfl lk_L_153 rfl rfl (Nat.le_of_ble_eq_true rfl) ⟨Nat.le_of_ble_eq_true rfl, Nat.le_of_ble_eq_true rfl, hc, hs⟩ zokc_10 (wX8_thrown G (P := fun v μ9 => v = some (.int (nI k)) ∧ μ9 = ov μ1 μ2) (X := noX) (ov μ1 μ2) ⟨by rw [h63], rfl⟩) (fun v μ9 hp => ?_) (fun _ _ hp => False.elim hp)
  obtain ⟨rfl, rfl⟩ := hp
  show VW _ _ _ _ _ _ _ [.int (nI k)] _ _ _
  refine v_iload (n := 1978) dL_law_1976 rfl rfl ?_
  refine v_icmp_eq (n := 1981) (t := 1983) dL_law_1978 rfl (by decide) (fun _ => ?_) (fun z => absurd rfl z)
  refine v_iload (n := 1985) dL_law_1983 rfl rfl ?_
  have fin : VW G hh b L xs 2000 [(0, .ref b), (1, .ref (zad G.1 9 0 0)), (2, .ref (zad G.1 10 0 0)), (3, .ref (zad G.1 35 0 0)), (4, .ref (zad G.1 36 0 0)), (5, .int (nI i)), (6, .int (nI k)), (7, .int r')] [] (ov μ1 μ2) (cells + 1) (slots + 6) := v_goto (n := 2576) dL_law_2000 (by decide) (v_pick [0, 1, 2, 3, 4, 5] rfl (K _ hI3))
  refine v_if_ne (n := 1988) (t := 2000) dL_law_1985 rfl (by decide) (fun _ => fin) (fun z => ?_)
  have hk0 := nI0_of hk4 z
  refine v_aload_n (n := 1989) dL_law_1988 rfl rfl ?_
  refine v_iconst (n := 1990) (x := nI 0) dL_law_1989 rfl rfl ?_
  refine v_lald (n := 1991) (j := 0) (v := .long r.toInt64) dL_law_1990 rfl hG zokc_35 (by decide) rfl rfl (by decide) (by show Value.long (ov μ1 μ2 35 0 0 0).toInt64 = _; rw [ov_ge (Or.inl rfl), hr hk0]) ?_
  refine v_iload (n := 1993) dL_law_1991 rfl rfl ?_
  refine v_i2l (n := 1994) dL_law_1993 rfl ?_
  rw [hrr hk0]
  refine v_lcmp (n := 1995) dL_law_1994 rfl ?_
  rw [lg_self]
  exact v_if_eq (n := 1998) (t := 2000) dL_law_1995 rfl (by decide) (fun _ => by rw [hrr hk0] at fin; exact fin) (fun z => absurd rfl z)
theorem lc_liftAccount (hG : G.2.2.2 = true) (hI : Inv μ W) (hi : i + 7 ≤ L) (hL : L ≤ 3584) (hW : W + 64 < 2 ^ 30) (hc : cells + 1 ≤ 603072) (hs : slots + 6 ≤ 7202922) (K : ∀ μ', Inv μ' (W + 64) → VW G hh b L xs 2576 (LB G b (nI i)) [] μ' (cells + 1) (slots + 6)) : VW G hh b L xs 2003 (LB G b (nI i)) [] μ cells slots := by
  refine v_aload_n (n := 2004) dL_law_2003 rfl rfl ?_
  refine v_aload_n (n := 2005) dL_law_2004 rfl rfl ?_
  refine v_iload (n := 2007) dL_law_2005 rfl rfl ?_
  refine v_iconst (n := 2008) (x := nI 1) dL_law_2007 rfl rfl ?_
  refine v_iadd (n := 2009) dL_law_2008 rfl ?_
  refine l_sld (n := 2010) (j := i + 1) dL_law_2009 rfl (nI_add i 1) (by omega) hL ?_
  refine v_aload_n (n := 2011) dL_law_2010 rfl rfl ?_
  refine v_iload (n := 2013) dL_law_2011 rfl rfl ?_
  refine v_iconst (n := 2014) (x := nI 2) dL_law_2013 rfl rfl ?_
  refine v_iadd (n := 2015) dL_law_2014 rfl ?_
  refine l_sld (n := 2016) (j := i + 2) dL_law_2015 rfl (nI_add i 2) (by omega) hL ?_
  refine v_aload_n (n := 2017) dL_law_2016 rfl rfl ?_
  refine v_callH (n := 2020) (As := [.ref (zad G.1 9 0 0), .int (xs (i + 1)), .int (xs (i + 2)), .ref (zad G.1 35 0 0)]) (rest := []) dL_law_2017 rfl lk_L_238 rfl rfl (Nat.le_of_ble_eq_true rfl) ⟨Nat.le_of_ble_eq_true rfl, Nat.le_of_ble_eq_true rfl, hc, hs⟩ (lw_liftAccount hG ((xs (i + 1))) ((xs (i + 2))) (op_liftAccount (offG G) hI ((xs (i + 1))) ((xs (i + 2))))) (fun v μ1 hp => ?_) (fun _ _ hp => False.elim hp)
  obtain ⟨k, r, μ0, hk4, rfl, hlk, hm, hr⟩ := hp
  show VW _ _ _ _ _ _ _ [.int (nI k)] _ _ _
  refine v_istore (n := 2022) (L' := [(0, .ref b), (1, .ref (zad G.1 9 0 0)), (2, .ref (zad G.1 10 0 0)), (3, .ref (zad G.1 35 0 0)), (4, .ref (zad G.1 36 0 0)), (5, .int (nI i)), (6, .int (nI k))]) dL_law_2020 rfl (show 7 ≤ 9 by decide) rfl ?_
  refine v_aload_n (n := 2023) dL_law_2022 rfl rfl ?_
  refine v_aload_n (n := 2024) dL_law_2023 rfl rfl ?_
  refine v_iload (n := 2026) dL_law_2024 rfl rfl ?_
  refine v_iconst (n := 2027) (x := nI 1) dL_law_2026 rfl rfl ?_
  refine v_iadd (n := 2028) dL_law_2027 rfl ?_
  refine l_sld (n := 2029) (j := i + 1) dL_law_2028 rfl (nI_add i 1) (by omega) hL ?_
  refine v_aload_n (n := 2030) dL_law_2029 rfl rfl ?_
  refine v_iload (n := 2032) dL_law_2030 rfl rfl ?_
  refine v_iconst (n := 2033) (x := nI 2) dL_law_2032 rfl rfl ?_
  refine v_iadd (n := 2034) dL_law_2033 rfl ?_
  refine l_sld (n := 2035) (j := i + 2) dL_law_2034 rfl (nI_add i 2) (by omega) hL ?_
  refine v_callV0 (n := 2038) (k := 10) (b := 0) (i := 0) (As := [.int (xs (i + 1)), .int (xs (i + 2))]) (rest := []) dL_law_2035 rfl lk_L_240 rfl rfl (Nat.le_of_ble_eq_true rfl) ⟨Nat.le_of_ble_eq_true rfl, Nat.le_of_ble_eq_true rfl, hc, hs⟩ zokc_10 hlk hm (fun v μ2 hp => ?_) (fun _ _ hp => False.elim hp)
  obtain ⟨r', rfl, hI2, h6, hrr⟩ := hp
  have hI3 : Inv (ov μ1 μ2) (W + 64) := hI2.lk Lk.ovr
  have h63 : ov μ1 μ2 10 0 0 6 = nI k := (ov_lt (by decide)).trans h6
  show VW _ _ _ _ _ _ _ [.int r'] _ _ _
  refine v_istore (n := 2040) (L' := [(0, .ref b), (1, .ref (zad G.1 9 0 0)), (2, .ref (zad G.1 10 0 0)), (3, .ref (zad G.1 35 0 0)), (4, .ref (zad G.1 36 0 0)), (5, .int (nI i)), (6, .int (nI k)), (7, .int r')]) dL_law_2038 rfl (show 8 ≤ 9 by decide) rfl ?_
  refine v_aload_n (n := 2041) dL_law_2040 rfl rfl ?_
  refine v_callV (n := 2044) (k := 10) (b := 0) (i := 0) (As := []) (rest := []) dL_law_2041 rfl lk_L_153 rfl rfl (Nat.le_of_ble_eq_true rfl) ⟨Nat.le_of_ble_eq_true rfl, Nat.le_of_ble_eq_true rfl, hc, hs⟩ zokc_10 (wX8_thrown G (P := fun v μ9 => v = some (.int (nI k)) ∧ μ9 = ov μ1 μ2) (X := noX) (ov μ1 μ2) ⟨by rw [h63], rfl⟩) (fun v μ9 hp => ?_) (fun _ _ hp => False.elim hp)
  obtain ⟨rfl, rfl⟩ := hp
  show VW _ _ _ _ _ _ _ [.int (nI k)] _ _ _
  refine v_iload (n := 2046) dL_law_2044 rfl rfl ?_
  refine v_icmp_eq (n := 2049) (t := 2051) dL_law_2046 rfl (by decide) (fun _ => ?_) (fun z => absurd rfl z)
  refine v_iload (n := 2053) dL_law_2051 rfl rfl ?_
  have fin : VW G hh b L xs 2068 [(0, .ref b), (1, .ref (zad G.1 9 0 0)), (2, .ref (zad G.1 10 0 0)), (3, .ref (zad G.1 35 0 0)), (4, .ref (zad G.1 36 0 0)), (5, .int (nI i)), (6, .int (nI k)), (7, .int r')] [] (ov μ1 μ2) (cells + 1) (slots + 6) := v_goto (n := 2576) dL_law_2068 (by decide) (v_pick [0, 1, 2, 3, 4, 5] rfl (K _ hI3))
  refine v_if_ne (n := 2056) (t := 2068) dL_law_2053 rfl (by decide) (fun _ => fin) (fun z => ?_)
  have hk0 := nI0_of hk4 z
  refine v_aload_n (n := 2057) dL_law_2056 rfl rfl ?_
  refine v_iconst (n := 2058) (x := nI 0) dL_law_2057 rfl rfl ?_
  refine v_lald (n := 2059) (j := 0) (v := .long r.toInt64) dL_law_2058 rfl hG zokc_35 (by decide) rfl rfl (by decide) (by show Value.long (ov μ1 μ2 35 0 0 0).toInt64 = _; rw [ov_ge (Or.inl rfl), hr hk0]) ?_
  refine v_iload (n := 2061) dL_law_2059 rfl rfl ?_
  refine v_i2l (n := 2062) dL_law_2061 rfl ?_
  rw [hrr hk0]
  refine v_lcmp (n := 2063) dL_law_2062 rfl ?_
  rw [lg_self]
  exact v_if_eq (n := 2066) (t := 2068) dL_law_2063 rfl (by decide) (fun _ => by rw [hrr hk0] at fin; exact fin) (fun z => absurd rfl z)
theorem lc_guestAccount (hG : G.2.2.2 = true) (hI : Inv μ W) (hi : i + 7 ≤ L) (hL : L ≤ 3584) (hW : W + 64 < 2 ^ 30) (hc : cells + 1 ≤ 603072) (hs : slots + 6 ≤ 7202922) (K : ∀ μ', Inv μ' (W + 64) → VW G hh b L xs 2576 (LB G b (nI i)) [] μ' (cells + 1) (slots + 6)) : VW G hh b L xs 2071 (LB G b (nI i)) [] μ cells slots := by
  refine v_aload_n (n := 2072) dL_law_2071 rfl rfl ?_
  refine v_aload_n (n := 2073) dL_law_2072 rfl rfl ?_
  refine v_iload (n := 2075) dL_law_2073 rfl rfl ?_
  refine v_iconst (n := 2076) (x := nI 1) dL_law_2075 rfl rfl ?_
  refine v_iadd (n := 2077) dL_law_2076 rfl ?_
  refine l_sld (n := 2078) (j := i + 1) dL_law_2077 rfl (nI_add i 1) (by omega) hL ?_
  refine v_aload_n (n := 2079) dL_law_2078 rfl rfl ?_
  refine v_iload (n := 2081) dL_law_2079 rfl rfl ?_
  refine v_iconst (n := 2082) (x := nI 2) dL_law_2081 rfl rfl ?_
  refine v_iadd (n := 2083) dL_law_2082 rfl ?_
  refine l_sld (n := 2084) (j := i + 2) dL_law_2083 rfl (nI_add i 2) (by omega) hL ?_
  refine v_aload_n (n := 2085) dL_law_2084 rfl rfl ?_
  refine v_callH (n := 2088) (As := [.ref (zad G.1 9 0 0), .int (xs (i + 1)), .int (xs (i + 2)), .ref (zad G.1 35 0 0)]) (rest := []) dL_law_2085 rfl lk_L_241 rfl rfl (Nat.le_of_ble_eq_true rfl) ⟨Nat.le_of_ble_eq_true rfl, Nat.le_of_ble_eq_true rfl, hc, hs⟩ (lw_guestAccount hG ((xs (i + 1))) ((xs (i + 2))) (op_guestAccount (offG G) hI ((xs (i + 1))) ((xs (i + 2))))) (fun v μ1 hp => ?_) (fun _ _ hp => False.elim hp)
  obtain ⟨k, r, μ0, hk4, rfl, hlk, hm, hr⟩ := hp
  show VW _ _ _ _ _ _ _ [.int (nI k)] _ _ _
  refine v_istore (n := 2090) (L' := [(0, .ref b), (1, .ref (zad G.1 9 0 0)), (2, .ref (zad G.1 10 0 0)), (3, .ref (zad G.1 35 0 0)), (4, .ref (zad G.1 36 0 0)), (5, .int (nI i)), (6, .int (nI k))]) dL_law_2088 rfl (show 7 ≤ 9 by decide) rfl ?_
  refine v_aload_n (n := 2091) dL_law_2090 rfl rfl ?_
  refine v_aload_n (n := 2092) dL_law_2091 rfl rfl ?_
  refine v_iload (n := 2094) dL_law_2092 rfl rfl ?_
  refine v_iconst (n := 2095) (x := nI 1) dL_law_2094 rfl rfl ?_
  refine v_iadd (n := 2096) dL_law_2095 rfl ?_
  refine l_sld (n := 2097) (j := i + 1) dL_law_2096 rfl (nI_add i 1) (by omega) hL ?_
  refine v_aload_n (n := 2098) dL_law_2097 rfl rfl ?_
  refine v_iload (n := 2100) dL_law_2098 rfl rfl ?_
  refine v_iconst (n := 2101) (x := nI 2) dL_law_2100 rfl rfl ?_
  refine v_iadd (n := 2102) dL_law_2101 rfl ?_
  refine l_sld (n := 2103) (j := i + 2) dL_law_2102 rfl (nI_add i 2) (by omega) hL ?_
  refine v_callV0 (n := 2106) (k := 10) (b := 0) (i := 0) (As := [.int (xs (i + 1)), .int (xs (i + 2))]) (rest := []) dL_law_2103 rfl lk_L_243 rfl rfl (Nat.le_of_ble_eq_true rfl) ⟨Nat.le_of_ble_eq_true rfl, Nat.le_of_ble_eq_true rfl, hc, hs⟩ zokc_10 hlk hm (fun v μ2 hp => ?_) (fun _ _ hp => False.elim hp)
  obtain ⟨r', rfl, hI2, h6, hrr⟩ := hp
  have hI3 : Inv (ov μ1 μ2) (W + 64) := hI2.lk Lk.ovr
  have h63 : ov μ1 μ2 10 0 0 6 = nI k := (ov_lt (by decide)).trans h6
  show VW _ _ _ _ _ _ _ [.int r'] _ _ _
  refine v_istore (n := 2108) (L' := [(0, .ref b), (1, .ref (zad G.1 9 0 0)), (2, .ref (zad G.1 10 0 0)), (3, .ref (zad G.1 35 0 0)), (4, .ref (zad G.1 36 0 0)), (5, .int (nI i)), (6, .int (nI k)), (7, .int r')]) dL_law_2106 rfl (show 8 ≤ 9 by decide) rfl ?_
  refine v_aload_n (n := 2109) dL_law_2108 rfl rfl ?_
  refine v_callV (n := 2112) (k := 10) (b := 0) (i := 0) (As := []) (rest := []) dL_law_2109 rfl lk_L_153 rfl rfl (Nat.le_of_ble_eq_true rfl) ⟨Nat.le_of_ble_eq_true rfl, Nat.le_of_ble_eq_true rfl, hc, hs⟩ zokc_10 (wX8_thrown G (P := fun v μ9 => v = some (.int (nI k)) ∧ μ9 = ov μ1 μ2) (X := noX) (ov μ1 μ2) ⟨by rw [h63], rfl⟩) (fun v μ9 hp => ?_) (fun _ _ hp => False.elim hp)
  obtain ⟨rfl, rfl⟩ := hp
  show VW _ _ _ _ _ _ _ [.int (nI k)] _ _ _
  refine v_iload (n := 2114) dL_law_2112 rfl rfl ?_
  refine v_icmp_eq (n := 2117) (t := 2119) dL_law_2114 rfl (by decide) (fun _ => ?_) (fun z => absurd rfl z)
  refine v_iload (n := 2121) dL_law_2119 rfl rfl ?_
  have fin : VW G hh b L xs 2136 [(0, .ref b), (1, .ref (zad G.1 9 0 0)), (2, .ref (zad G.1 10 0 0)), (3, .ref (zad G.1 35 0 0)), (4, .ref (zad G.1 36 0 0)), (5, .int (nI i)), (6, .int (nI k)), (7, .int r')] [] (ov μ1 μ2) (cells + 1) (slots + 6) := v_goto (n := 2576) dL_law_2136 (by decide) (v_pick [0, 1, 2, 3, 4, 5] rfl (K _ hI3))
  refine v_if_ne (n := 2124) (t := 2136) dL_law_2121 rfl (by decide) (fun _ => fin) (fun z => ?_)
  have hk0 := nI0_of hk4 z
  refine v_aload_n (n := 2125) dL_law_2124 rfl rfl ?_
  refine v_iconst (n := 2126) (x := nI 0) dL_law_2125 rfl rfl ?_
  refine v_lald (n := 2127) (j := 0) (v := .long r.toInt64) dL_law_2126 rfl hG zokc_35 (by decide) rfl rfl (by decide) (by show Value.long (ov μ1 μ2 35 0 0 0).toInt64 = _; rw [ov_ge (Or.inl rfl), hr hk0]) ?_
  refine v_iload (n := 2129) dL_law_2127 rfl rfl ?_
  refine v_i2l (n := 2130) dL_law_2129 rfl ?_
  rw [hrr hk0]
  refine v_lcmp (n := 2131) dL_law_2130 rfl ?_
  rw [lg_self]
  exact v_if_eq (n := 2134) (t := 2136) dL_law_2131 rfl (by decide) (fun _ => by rw [hrr hk0] at fin; exact fin) (fun z => absurd rfl z)
theorem lc_pisteAccount (hG : G.2.2.2 = true) (hI : Inv μ W) (hi : i + 7 ≤ L) (hL : L ≤ 3584) (hW : W + 64 < 2 ^ 30) (hc : cells + 1 ≤ 603072) (hs : slots + 6 ≤ 7202922) (K : ∀ μ', Inv μ' (W + 64) → VW G hh b L xs 2576 (LB G b (nI i)) [] μ' (cells + 1) (slots + 6)) : VW G hh b L xs 2139 (LB G b (nI i)) [] μ cells slots := by
  refine v_aload_n (n := 2140) dL_law_2139 rfl rfl ?_
  refine v_aload_n (n := 2141) dL_law_2140 rfl rfl ?_
  refine v_iload (n := 2143) dL_law_2141 rfl rfl ?_
  refine v_iconst (n := 2144) (x := nI 1) dL_law_2143 rfl rfl ?_
  refine v_iadd (n := 2145) dL_law_2144 rfl ?_
  refine l_sld (n := 2146) (j := i + 1) dL_law_2145 rfl (nI_add i 1) (by omega) hL ?_
  refine v_aload_n (n := 2147) dL_law_2146 rfl rfl ?_
  refine v_callH (n := 2150) (As := [.ref (zad G.1 9 0 0), .int (xs (i + 1)), .ref (zad G.1 35 0 0)]) (rest := []) dL_law_2147 rfl lk_L_244 rfl rfl (Nat.le_of_ble_eq_true rfl) ⟨Nat.le_of_ble_eq_true rfl, Nat.le_of_ble_eq_true rfl, hc, hs⟩ (lw_pisteAccount hG ((xs (i + 1))) (op_pisteAccount (offG G) hI ((xs (i + 1))))) (fun v μ1 hp => ?_) (fun _ _ hp => False.elim hp)
  obtain ⟨k, r, μ0, hk4, rfl, hlk, hm, hr⟩ := hp
  show VW _ _ _ _ _ _ _ [.int (nI k)] _ _ _
  refine v_istore (n := 2152) (L' := [(0, .ref b), (1, .ref (zad G.1 9 0 0)), (2, .ref (zad G.1 10 0 0)), (3, .ref (zad G.1 35 0 0)), (4, .ref (zad G.1 36 0 0)), (5, .int (nI i)), (6, .int (nI k))]) dL_law_2150 rfl (show 7 ≤ 9 by decide) rfl ?_
  refine v_aload_n (n := 2153) dL_law_2152 rfl rfl ?_
  refine v_aload_n (n := 2154) dL_law_2153 rfl rfl ?_
  refine v_iload (n := 2156) dL_law_2154 rfl rfl ?_
  refine v_iconst (n := 2157) (x := nI 1) dL_law_2156 rfl rfl ?_
  refine v_iadd (n := 2158) dL_law_2157 rfl ?_
  refine l_sld (n := 2159) (j := i + 1) dL_law_2158 rfl (nI_add i 1) (by omega) hL ?_
  refine v_callV0 (n := 2162) (k := 10) (b := 0) (i := 0) (As := [.int (xs (i + 1))]) (rest := []) dL_law_2159 rfl lk_L_246 rfl rfl (Nat.le_of_ble_eq_true rfl) ⟨Nat.le_of_ble_eq_true rfl, Nat.le_of_ble_eq_true rfl, hc, hs⟩ zokc_10 hlk hm (fun v μ2 hp => ?_) (fun _ _ hp => False.elim hp)
  obtain ⟨r', rfl, hI2, h6, hrr⟩ := hp
  have hI3 : Inv (ov μ1 μ2) (W + 64) := hI2.lk Lk.ovr
  have h63 : ov μ1 μ2 10 0 0 6 = nI k := (ov_lt (by decide)).trans h6
  show VW _ _ _ _ _ _ _ [.int r'] _ _ _
  refine v_istore (n := 2164) (L' := [(0, .ref b), (1, .ref (zad G.1 9 0 0)), (2, .ref (zad G.1 10 0 0)), (3, .ref (zad G.1 35 0 0)), (4, .ref (zad G.1 36 0 0)), (5, .int (nI i)), (6, .int (nI k)), (7, .int r')]) dL_law_2162 rfl (show 8 ≤ 9 by decide) rfl ?_
  refine v_aload_n (n := 2165) dL_law_2164 rfl rfl ?_
  refine v_callV (n := 2168) (k := 10) (b := 0) (i := 0) (As := []) (rest := []) dL_law_2165 rfl lk_L_153 rfl rfl (Nat.le_of_ble_eq_true rfl) ⟨Nat.le_of_ble_eq_true rfl, Nat.le_of_ble_eq_true rfl, hc, hs⟩ zokc_10 (wX8_thrown G (P := fun v μ9 => v = some (.int (nI k)) ∧ μ9 = ov μ1 μ2) (X := noX) (ov μ1 μ2) ⟨by rw [h63], rfl⟩) (fun v μ9 hp => ?_) (fun _ _ hp => False.elim hp)
  obtain ⟨rfl, rfl⟩ := hp
  show VW _ _ _ _ _ _ _ [.int (nI k)] _ _ _
  refine v_iload (n := 2170) dL_law_2168 rfl rfl ?_
  refine v_icmp_eq (n := 2173) (t := 2175) dL_law_2170 rfl (by decide) (fun _ => ?_) (fun z => absurd rfl z)
  refine v_iload (n := 2177) dL_law_2175 rfl rfl ?_
  have fin : VW G hh b L xs 2192 [(0, .ref b), (1, .ref (zad G.1 9 0 0)), (2, .ref (zad G.1 10 0 0)), (3, .ref (zad G.1 35 0 0)), (4, .ref (zad G.1 36 0 0)), (5, .int (nI i)), (6, .int (nI k)), (7, .int r')] [] (ov μ1 μ2) (cells + 1) (slots + 6) := v_goto (n := 2576) dL_law_2192 (by decide) (v_pick [0, 1, 2, 3, 4, 5] rfl (K _ hI3))
  refine v_if_ne (n := 2180) (t := 2192) dL_law_2177 rfl (by decide) (fun _ => fin) (fun z => ?_)
  have hk0 := nI0_of hk4 z
  refine v_aload_n (n := 2181) dL_law_2180 rfl rfl ?_
  refine v_iconst (n := 2182) (x := nI 0) dL_law_2181 rfl rfl ?_
  refine v_lald (n := 2183) (j := 0) (v := .long r.toInt64) dL_law_2182 rfl hG zokc_35 (by decide) rfl rfl (by decide) (by show Value.long (ov μ1 μ2 35 0 0 0).toInt64 = _; rw [ov_ge (Or.inl rfl), hr hk0]) ?_
  refine v_iload (n := 2185) dL_law_2183 rfl rfl ?_
  refine v_i2l (n := 2186) dL_law_2185 rfl ?_
  rw [hrr hk0]
  refine v_lcmp (n := 2187) dL_law_2186 rfl ?_
  rw [lg_self]
  exact v_if_eq (n := 2190) (t := 2192) dL_law_2187 rfl (by decide) (fun _ => by rw [hrr hk0] at fin; exact fin) (fun z => absurd rfl z)
theorem lc_audit (hG : G.2.2.2 = true) (hI : Inv μ W) (hi : i + 7 ≤ L) (hL : L ≤ 3584) (hW : W + 64 < 2 ^ 30) (hc : cells + 1 ≤ 603072) (hs : slots + 6 ≤ 7202922) (K : ∀ μ', Inv μ' (W + 64) → VW G hh b L xs 2576 (LB G b (nI i)) [] μ' (cells + 1) (slots + 6)) : VW G hh b L xs 2195 (LB G b (nI i)) [] μ cells slots := by
  refine v_aload_n (n := 2196) dL_law_2195 rfl rfl ?_
  refine v_callV0 (n := 2199) (k := 9) (b := 0) (i := 0) (As := []) (rest := []) dL_law_2196 rfl lk_L_247 rfl rfl (Nat.le_of_ble_eq_true rfl) ⟨Nat.le_of_ble_eq_true rfl, Nat.le_of_ble_eq_true rfl, Nat.le_of_succ_le hc, Nat.le_trans (Nat.le_add_right _ _) hs⟩ zokc_9 (Lk.refl μ) (op_audit (offG G) hI) (fun v μ1 hp => ?_) (fun E μ1 hp => by obtain ⟨k, hk, -⟩ := hp; simp at hk)
  obtain ⟨r, rfl, hm⟩ := hp
  show VW _ _ _ _ _ _ _ [.int r] _ _ _
  refine v_aload_n (n := 2200) dL_law_2199 rfl rfl ?_
  refine v_callV0 (n := 2203) (k := 10) (b := 0) (i := 0) (As := []) (rest := [.int r]) dL_law_2200 rfl lk_L_250 rfl rfl (Nat.le_of_ble_eq_true rfl) ⟨Nat.le_of_ble_eq_true rfl, Nat.le_of_ble_eq_true rfl, Nat.le_of_succ_le hc, Nat.le_trans (Nat.le_add_right _ _) hs⟩ zokc_10 Lk.ovr hm (fun v μ2 hp => ?_) (fun _ _ hp => False.elim hp)
  obtain ⟨r', rfl, hI2, h6, hrr⟩ := hp
  show VW _ _ _ _ _ _ _ [.int r', .int r] _ _ _
  rw [hrr rfl]
  refine v_icmp_eq (n := 2206) (t := 2576) dL_law_2203 rfl (by decide) (fun _ => ?_) (fun z => absurd rfl z)
  exact v_wide (a := cells + 1) (b := slots + 6) (Nat.le_succ _) (Nat.le_add_right _ _) (K _ (hI2.lk Lk.ovr))
theorem lc_busiest (hG : G.2.2.2 = true) (hI : Inv μ W) (hi : i + 7 ≤ L) (hL : L ≤ 3584) (hW : W + 64 < 2 ^ 30) (hc : cells + 1 ≤ 603072) (hs : slots + 6 ≤ 7202922) (K : ∀ μ', Inv μ' (W + 64) → VW G hh b L xs 2576 (LB G b (nI i)) [] μ' (cells + 1) (slots + 6)) : VW G hh b L xs 2208 (LB G b (nI i)) [] μ cells slots := by
  refine v_aload_n (n := 2209) dL_law_2208 rfl rfl ?_
  refine v_aload_n (n := 2210) dL_law_2209 rfl rfl ?_
  refine v_callH (n := 2213) (As := [.ref (zad G.1 9 0 0), .ref (zad G.1 35 0 0)]) (rest := []) dL_law_2210 rfl lk_L_251 rfl rfl (Nat.le_of_ble_eq_true rfl) ⟨Nat.le_of_ble_eq_true rfl, Nat.le_of_ble_eq_true rfl, hc, hs⟩ (lw_busiest hG (op_busiest (offG G) hI )) (fun v μ1 hp => ?_) (fun _ _ hp => False.elim hp)
  obtain ⟨k, r, μ0, hk4, rfl, hlk, hm, hr⟩ := hp
  show VW _ _ _ _ _ _ _ [.int (nI k)] _ _ _
  refine v_istore (n := 2215) (L' := [(0, .ref b), (1, .ref (zad G.1 9 0 0)), (2, .ref (zad G.1 10 0 0)), (3, .ref (zad G.1 35 0 0)), (4, .ref (zad G.1 36 0 0)), (5, .int (nI i)), (6, .int (nI k))]) dL_law_2213 rfl (show 7 ≤ 9 by decide) rfl ?_
  refine v_aload_n (n := 2216) dL_law_2215 rfl rfl ?_
  refine v_callV0 (n := 2219) (k := 10) (b := 0) (i := 0) (As := []) (rest := []) dL_law_2216 rfl lk_L_253 rfl rfl (Nat.le_of_ble_eq_true rfl) ⟨Nat.le_of_ble_eq_true rfl, Nat.le_of_ble_eq_true rfl, hc, hs⟩ zokc_10 hlk hm (fun v μ2 hp => ?_) (fun _ _ hp => False.elim hp)
  obtain ⟨r', rfl, hI2, h6, hrr⟩ := hp
  have hI3 : Inv (ov μ1 μ2) (W + 64) := hI2.lk Lk.ovr
  have h63 : ov μ1 μ2 10 0 0 6 = nI k := (ov_lt (by decide)).trans h6
  show VW _ _ _ _ _ _ _ [.int r'] _ _ _
  refine v_istore (n := 2221) (L' := [(0, .ref b), (1, .ref (zad G.1 9 0 0)), (2, .ref (zad G.1 10 0 0)), (3, .ref (zad G.1 35 0 0)), (4, .ref (zad G.1 36 0 0)), (5, .int (nI i)), (6, .int (nI k)), (7, .int r')]) dL_law_2219 rfl (show 8 ≤ 9 by decide) rfl ?_
  refine v_aload_n (n := 2222) dL_law_2221 rfl rfl ?_
  refine v_callV (n := 2225) (k := 10) (b := 0) (i := 0) (As := []) (rest := []) dL_law_2222 rfl lk_L_153 rfl rfl (Nat.le_of_ble_eq_true rfl) ⟨Nat.le_of_ble_eq_true rfl, Nat.le_of_ble_eq_true rfl, hc, hs⟩ zokc_10 (wX8_thrown G (P := fun v μ9 => v = some (.int (nI k)) ∧ μ9 = ov μ1 μ2) (X := noX) (ov μ1 μ2) ⟨by rw [h63], rfl⟩) (fun v μ9 hp => ?_) (fun _ _ hp => False.elim hp)
  obtain ⟨rfl, rfl⟩ := hp
  show VW _ _ _ _ _ _ _ [.int (nI k)] _ _ _
  refine v_iload (n := 2227) dL_law_2225 rfl rfl ?_
  refine v_icmp_eq (n := 2230) (t := 2232) dL_law_2227 rfl (by decide) (fun _ => ?_) (fun z => absurd rfl z)
  refine v_iload (n := 2234) dL_law_2232 rfl rfl ?_
  have fin : VW G hh b L xs 2249 [(0, .ref b), (1, .ref (zad G.1 9 0 0)), (2, .ref (zad G.1 10 0 0)), (3, .ref (zad G.1 35 0 0)), (4, .ref (zad G.1 36 0 0)), (5, .int (nI i)), (6, .int (nI k)), (7, .int r')] [] (ov μ1 μ2) (cells + 1) (slots + 6) := v_goto (n := 2576) dL_law_2249 (by decide) (v_pick [0, 1, 2, 3, 4, 5] rfl (K _ hI3))
  refine v_if_ne (n := 2237) (t := 2249) dL_law_2234 rfl (by decide) (fun _ => fin) (fun z => ?_)
  have hk0 := nI0_of hk4 z
  refine v_aload_n (n := 2238) dL_law_2237 rfl rfl ?_
  refine v_iconst (n := 2239) (x := nI 0) dL_law_2238 rfl rfl ?_
  refine v_lald (n := 2240) (j := 0) (v := .long r.toInt64) dL_law_2239 rfl hG zokc_35 (by decide) rfl rfl (by decide) (by show Value.long (ov μ1 μ2 35 0 0 0).toInt64 = _; rw [ov_ge (Or.inl rfl), hr hk0]) ?_
  refine v_iload (n := 2242) dL_law_2240 rfl rfl ?_
  refine v_i2l (n := 2243) dL_law_2242 rfl ?_
  rw [hrr hk0]
  refine v_lcmp (n := 2244) dL_law_2243 rfl ?_
  rw [lg_self]
  exact v_if_eq (n := 2247) (t := 2249) dL_law_2244 rfl (by decide) (fun _ => by rw [hrr hk0] at fin; exact fin) (fun z => absurd rfl z)
theorem lc_load (hG : G.2.2.2 = true) (hI : Inv μ W) (hi : i + 7 ≤ L) (hL : L ≤ 3584) (hW : W + 64 < 2 ^ 30) (hc : cells + 1 ≤ 603072) (hs : slots + 6 ≤ 7202922) (K : ∀ μ', Inv μ' (W + 64) → VW G hh b L xs 2576 (LB G b (nI i)) [] μ' (cells + 1) (slots + 6)) : VW G hh b L xs 2252 (LB G b (nI i)) [] μ cells slots := by
  refine v_aload_n (n := 2253) dL_law_2252 rfl rfl ?_
  refine v_aload_n (n := 2254) dL_law_2253 rfl rfl ?_
  refine v_iload (n := 2256) dL_law_2254 rfl rfl ?_
  refine v_iconst (n := 2257) (x := nI 1) dL_law_2256 rfl rfl ?_
  refine v_iadd (n := 2258) dL_law_2257 rfl ?_
  refine l_sld (n := 2259) (j := i + 1) dL_law_2258 rfl (nI_add i 1) (by omega) hL ?_
  refine v_aload (n := 2261) dL_law_2259 rfl rfl ?_
  refine v_callH (n := 2264) (As := [.ref (zad G.1 9 0 0), .int (xs (i + 1)), .ref (zad G.1 36 0 0)]) (rest := []) dL_law_2261 rfl lk_L_254 rfl rfl (Nat.le_of_ble_eq_true rfl) ⟨Nat.le_of_ble_eq_true rfl, Nat.le_of_ble_eq_true rfl, hc, hs⟩ (lw_load hG ((xs (i + 1))) (op_load (offG G) hI ((xs (i + 1))))) (fun v μ1 hp => ?_) (fun _ _ hp => False.elim hp)
  obtain ⟨k, r, μ0, hk4, rfl, hlk, hm, hr⟩ := hp
  show VW _ _ _ _ _ _ _ [.int (nI k)] _ _ _
  refine v_istore (n := 2266) (L' := [(0, .ref b), (1, .ref (zad G.1 9 0 0)), (2, .ref (zad G.1 10 0 0)), (3, .ref (zad G.1 35 0 0)), (4, .ref (zad G.1 36 0 0)), (5, .int (nI i)), (6, .int (nI k))]) dL_law_2264 rfl (show 7 ≤ 9 by decide) rfl ?_
  refine v_aload_n (n := 2267) dL_law_2266 rfl rfl ?_
  refine v_aload_n (n := 2268) dL_law_2267 rfl rfl ?_
  refine v_iload (n := 2270) dL_law_2268 rfl rfl ?_
  refine v_iconst (n := 2271) (x := nI 1) dL_law_2270 rfl rfl ?_
  refine v_iadd (n := 2272) dL_law_2271 rfl ?_
  refine l_sld (n := 2273) (j := i + 1) dL_law_2272 rfl (nI_add i 1) (by omega) hL ?_
  refine v_callV0 (n := 2276) (k := 10) (b := 0) (i := 0) (As := [.int (xs (i + 1))]) (rest := []) dL_law_2273 rfl lk_L_257 rfl rfl (Nat.le_of_ble_eq_true rfl) ⟨Nat.le_of_ble_eq_true rfl, Nat.le_of_ble_eq_true rfl, hc, hs⟩ zokc_10 hlk hm (fun v μ2 hp => ?_) (fun _ _ hp => False.elim hp)
  obtain ⟨r', rfl, hI2, h6, hrr⟩ := hp
  have hI3 : Inv (ov μ1 μ2) (W + 64) := hI2.lk Lk.ovr
  have h63 : ov μ1 μ2 10 0 0 6 = nI k := (ov_lt (by decide)).trans h6
  show VW _ _ _ _ _ _ _ [.double r'] _ _ _
  refine v_dstore (n := 2278) (L' := [(0, .ref b), (1, .ref (zad G.1 9 0 0)), (2, .ref (zad G.1 10 0 0)), (3, .ref (zad G.1 35 0 0)), (4, .ref (zad G.1 36 0 0)), (5, .int (nI i)), (6, .int (nI k)), (7, .double r')]) dL_law_2276 rfl (show 9 ≤ 9 by decide) rfl ?_
  refine v_aload_n (n := 2279) dL_law_2278 rfl rfl ?_
  refine v_callV (n := 2282) (k := 10) (b := 0) (i := 0) (As := []) (rest := []) dL_law_2279 rfl lk_L_153 rfl rfl (Nat.le_of_ble_eq_true rfl) ⟨Nat.le_of_ble_eq_true rfl, Nat.le_of_ble_eq_true rfl, hc, hs⟩ zokc_10 (wX8_thrown G (P := fun v μ9 => v = some (.int (nI k)) ∧ μ9 = ov μ1 μ2) (X := noX) (ov μ1 μ2) ⟨by rw [h63], rfl⟩) (fun v μ9 hp => ?_) (fun _ _ hp => False.elim hp)
  obtain ⟨rfl, rfl⟩ := hp
  show VW _ _ _ _ _ _ _ [.int (nI k)] _ _ _
  refine v_iload (n := 2284) dL_law_2282 rfl rfl ?_
  refine v_icmp_eq (n := 2287) (t := 2289) dL_law_2284 rfl (by decide) (fun _ => ?_) (fun z => absurd rfl z)
  refine v_iload (n := 2291) dL_law_2289 rfl rfl ?_
  have fin : VW G hh b L xs 2326 [(0, .ref b), (1, .ref (zad G.1 9 0 0)), (2, .ref (zad G.1 10 0 0)), (3, .ref (zad G.1 35 0 0)), (4, .ref (zad G.1 36 0 0)), (5, .int (nI i)), (6, .int (nI k)), (7, .double r')] [] (ov μ1 μ2) (cells + 1) (slots + 6) := v_goto (n := 2576) dL_law_2326 (by decide) (v_pick [0, 1, 2, 3, 4, 5] rfl (K _ hI3))
  refine v_if_ne (n := 2294) (t := 2326) dL_law_2291 rfl (by decide) (fun _ => fin) (fun z => ?_)
  have hk0 := nI0_of hk4 z
  refine v_aload (n := 2296) dL_law_2294 rfl rfl ?_
  refine v_iconst (n := 2297) (x := nI 0) dL_law_2296 rfl rfl ?_
  refine v_dald (n := 2298) (j := 0) (v := .double r) dL_law_2297 rfl hG zokc_36 (by decide) rfl rfl (by decide) (by show Value.double (FP.ddiv (FP.i2d (ov μ1 μ2 36 0 0 0)) (FP.i2d (ov μ1 μ2 36 0 0 1))) = _; rw [ov_ge (Or.inr rfl), ov_ge (Or.inr rfl), (hr hk0).1]) ?_
  refine v_dload (n := 2300) dL_law_2298 rfl rfl ?_
  rw [hrr hk0]
  refine v_dcmp (n := 2301) dL_law_2300 rfl ?_
  rw [d_self (hr hk0).2]
  exact v_if_eq (n := 2304) (t := 2326) dL_law_2301 rfl (by decide) (fun _ => by rw [hrr hk0] at fin; exact fin) (fun z => absurd rfl z)
theorem lc_append (hG : G.2.2.2 = true) (hI : Inv μ W) (hi : i + 7 ≤ L) (hL : L ≤ 3584) (hW : W + 64 < 2 ^ 30) (hc : cells + 1 ≤ 603072) (hs : slots + 6 ≤ 7202922) (K : ∀ μ', Inv μ' (W + 64) → VW G hh b L xs 2576 (LB G b (nI i)) [] μ' (cells + 1) (slots + 6)) : VW G hh b L xs 2329 (LB G b (nI i)) [] μ cells slots := by
  refine v_aload_n (n := 2330) dL_law_2329 rfl rfl ?_
  refine v_aload_n (n := 2331) dL_law_2330 rfl rfl ?_
  refine v_iload (n := 2333) dL_law_2331 rfl rfl ?_
  refine v_iconst (n := 2334) (x := nI 1) dL_law_2333 rfl rfl ?_
  refine v_iadd (n := 2335) dL_law_2334 rfl ?_
  refine l_sld (n := 2336) (j := i + 1) dL_law_2335 rfl (nI_add i 1) (by omega) hL ?_
  refine v_i2c (n := 2337) dL_law_2336 rfl ?_
  refine v_aload_n (n := 2338) dL_law_2337 rfl rfl ?_
  refine v_callH (n := 2341) (As := [.ref (zad G.1 9 0 0), .int ((xs (i + 1)).toUInt32 % 65536).toInt32, .ref (zad G.1 35 0 0)]) (rest := []) dL_law_2338 rfl lk_L_258 rfl rfl (Nat.le_of_ble_eq_true rfl) ⟨Nat.le_of_ble_eq_true rfl, Nat.le_of_ble_eq_true rfl, hc, hs⟩ (lw_append hG (((xs (i + 1)).toUInt32 % 65536).toInt32) (op_append (offG G) hI (((xs (i + 1)).toUInt32 % 65536).toInt32))) (fun v μ1 hp => ?_) (fun _ _ hp => False.elim hp)
  obtain ⟨k, r, μ0, hk4, rfl, hlk, hm, hr⟩ := hp
  show VW _ _ _ _ _ _ _ [.int (nI k)] _ _ _
  refine v_istore (n := 2343) (L' := [(0, .ref b), (1, .ref (zad G.1 9 0 0)), (2, .ref (zad G.1 10 0 0)), (3, .ref (zad G.1 35 0 0)), (4, .ref (zad G.1 36 0 0)), (5, .int (nI i)), (6, .int (nI k))]) dL_law_2341 rfl (show 7 ≤ 9 by decide) rfl ?_
  refine v_aload_n (n := 2344) dL_law_2343 rfl rfl ?_
  refine v_aload_n (n := 2345) dL_law_2344 rfl rfl ?_
  refine v_iload (n := 2347) dL_law_2345 rfl rfl ?_
  refine v_iconst (n := 2348) (x := nI 1) dL_law_2347 rfl rfl ?_
  refine v_iadd (n := 2349) dL_law_2348 rfl ?_
  refine l_sld (n := 2350) (j := i + 1) dL_law_2349 rfl (nI_add i 1) (by omega) hL ?_
  refine v_i2c (n := 2351) dL_law_2350 rfl ?_
  refine v_callV0 (n := 2354) (k := 10) (b := 0) (i := 0) (As := [.int ((xs (i + 1)).toUInt32 % 65536).toInt32]) (rest := []) dL_law_2351 rfl lk_L_261 rfl rfl (Nat.le_of_ble_eq_true rfl) ⟨Nat.le_of_ble_eq_true rfl, Nat.le_of_ble_eq_true rfl, hc, hs⟩ zokc_10 hlk hm (fun v μ2 hp => ?_) (fun _ _ hp => False.elim hp)
  obtain ⟨r', rfl, hI2, h6, hrr⟩ := hp
  have hI3 : Inv (ov μ1 μ2) (W + 64) := hI2.lk Lk.ovr
  have h63 : ov μ1 μ2 10 0 0 6 = nI k := (ov_lt (by decide)).trans h6
  show VW _ _ _ _ _ _ _ [.int r'] _ _ _
  refine v_istore (n := 2356) (L' := [(0, .ref b), (1, .ref (zad G.1 9 0 0)), (2, .ref (zad G.1 10 0 0)), (3, .ref (zad G.1 35 0 0)), (4, .ref (zad G.1 36 0 0)), (5, .int (nI i)), (6, .int (nI k)), (7, .int r')]) dL_law_2354 rfl (show 8 ≤ 9 by decide) rfl ?_
  refine v_aload_n (n := 2357) dL_law_2356 rfl rfl ?_
  refine v_callV (n := 2360) (k := 10) (b := 0) (i := 0) (As := []) (rest := []) dL_law_2357 rfl lk_L_153 rfl rfl (Nat.le_of_ble_eq_true rfl) ⟨Nat.le_of_ble_eq_true rfl, Nat.le_of_ble_eq_true rfl, hc, hs⟩ zokc_10 (wX8_thrown G (P := fun v μ9 => v = some (.int (nI k)) ∧ μ9 = ov μ1 μ2) (X := noX) (ov μ1 μ2) ⟨by rw [h63], rfl⟩) (fun v μ9 hp => ?_) (fun _ _ hp => False.elim hp)
  obtain ⟨rfl, rfl⟩ := hp
  show VW _ _ _ _ _ _ _ [.int (nI k)] _ _ _
  refine v_iload (n := 2362) dL_law_2360 rfl rfl ?_
  refine v_icmp_eq (n := 2365) (t := 2367) dL_law_2362 rfl (by decide) (fun _ => ?_) (fun z => absurd rfl z)
  refine v_iload (n := 2369) dL_law_2367 rfl rfl ?_
  have fin : VW G hh b L xs 2384 [(0, .ref b), (1, .ref (zad G.1 9 0 0)), (2, .ref (zad G.1 10 0 0)), (3, .ref (zad G.1 35 0 0)), (4, .ref (zad G.1 36 0 0)), (5, .int (nI i)), (6, .int (nI k)), (7, .int r')] [] (ov μ1 μ2) (cells + 1) (slots + 6) := v_goto (n := 2576) dL_law_2384 (by decide) (v_pick [0, 1, 2, 3, 4, 5] rfl (K _ hI3))
  refine v_if_ne (n := 2372) (t := 2384) dL_law_2369 rfl (by decide) (fun _ => fin) (fun z => ?_)
  have hk0 := nI0_of hk4 z
  refine v_aload_n (n := 2373) dL_law_2372 rfl rfl ?_
  refine v_iconst (n := 2374) (x := nI 0) dL_law_2373 rfl rfl ?_
  refine v_lald (n := 2375) (j := 0) (v := .long r.toInt64) dL_law_2374 rfl hG zokc_35 (by decide) rfl rfl (by decide) (by show Value.long (ov μ1 μ2 35 0 0 0).toInt64 = _; rw [ov_ge (Or.inl rfl), hr hk0]) ?_
  refine v_iload (n := 2377) dL_law_2375 rfl rfl ?_
  refine v_i2l (n := 2378) dL_law_2377 rfl ?_
  rw [hrr hk0]
  refine v_lcmp (n := 2379) dL_law_2378 rfl ?_
  rw [lg_self]
  exact v_if_eq (n := 2382) (t := 2384) dL_law_2379 rfl (by decide) (fun _ => by rw [hrr hk0] at fin; exact fin) (fun z => absurd rfl z)
theorem lc_read (hG : G.2.2.2 = true) (hI : Inv μ W) (hi : i + 7 ≤ L) (hL : L ≤ 3584) (hW : W + 64 < 2 ^ 30) (hc : cells + 1 ≤ 603072) (hs : slots + 6 ≤ 7202922) (K : ∀ μ', Inv μ' (W + 64) → VW G hh b L xs 2576 (LB G b (nI i)) [] μ' (cells + 1) (slots + 6)) : VW G hh b L xs 2387 (LB G b (nI i)) [] μ cells slots := by
  refine v_aload_n (n := 2388) dL_law_2387 rfl rfl ?_
  refine v_aload_n (n := 2389) dL_law_2388 rfl rfl ?_
  refine v_callH (n := 2392) (As := [.ref (zad G.1 9 0 0), .ref (zad G.1 35 0 0)]) (rest := []) dL_law_2389 rfl lk_L_262 rfl rfl (Nat.le_of_ble_eq_true rfl) ⟨Nat.le_of_ble_eq_true rfl, Nat.le_of_ble_eq_true rfl, hc, hs⟩ (lw_read hG (op_read (offG G) hI hW )) (fun v μ1 hp => ?_) (fun _ _ hp => False.elim hp)
  obtain ⟨k, r, μ0, hk4, rfl, hlk, hm, hr⟩ := hp
  show VW _ _ _ _ _ _ _ [.int (nI k)] _ _ _
  refine v_istore (n := 2394) (L' := [(0, .ref b), (1, .ref (zad G.1 9 0 0)), (2, .ref (zad G.1 10 0 0)), (3, .ref (zad G.1 35 0 0)), (4, .ref (zad G.1 36 0 0)), (5, .int (nI i)), (6, .int (nI k))]) dL_law_2392 rfl (show 7 ≤ 9 by decide) rfl ?_
  refine v_aload_n (n := 2395) dL_law_2394 rfl rfl ?_
  refine v_callV0 (n := 2398) (k := 10) (b := 0) (i := 0) (As := []) (rest := []) dL_law_2395 rfl lk_L_264 rfl rfl (Nat.le_of_ble_eq_true rfl) ⟨Nat.le_of_ble_eq_true rfl, Nat.le_of_ble_eq_true rfl, hc, hs⟩ zokc_10 hlk hm (fun v μ2 hp => ?_) (fun _ _ hp => False.elim hp)
  obtain ⟨r', rfl, hI2, h6, hrr⟩ := hp
  have hI3 : Inv (ov μ1 μ2) (W + 64) := hI2.lk Lk.ovr
  have h63 : ov μ1 μ2 10 0 0 6 = nI k := (ov_lt (by decide)).trans h6
  show VW _ _ _ _ _ _ _ [.int r'] _ _ _
  refine v_istore (n := 2400) (L' := [(0, .ref b), (1, .ref (zad G.1 9 0 0)), (2, .ref (zad G.1 10 0 0)), (3, .ref (zad G.1 35 0 0)), (4, .ref (zad G.1 36 0 0)), (5, .int (nI i)), (6, .int (nI k)), (7, .int r')]) dL_law_2398 rfl (show 8 ≤ 9 by decide) rfl ?_
  refine v_aload_n (n := 2401) dL_law_2400 rfl rfl ?_
  refine v_callV (n := 2404) (k := 10) (b := 0) (i := 0) (As := []) (rest := []) dL_law_2401 rfl lk_L_153 rfl rfl (Nat.le_of_ble_eq_true rfl) ⟨Nat.le_of_ble_eq_true rfl, Nat.le_of_ble_eq_true rfl, hc, hs⟩ zokc_10 (wX8_thrown G (P := fun v μ9 => v = some (.int (nI k)) ∧ μ9 = ov μ1 μ2) (X := noX) (ov μ1 μ2) ⟨by rw [h63], rfl⟩) (fun v μ9 hp => ?_) (fun _ _ hp => False.elim hp)
  obtain ⟨rfl, rfl⟩ := hp
  show VW _ _ _ _ _ _ _ [.int (nI k)] _ _ _
  refine v_iload (n := 2406) dL_law_2404 rfl rfl ?_
  refine v_icmp_eq (n := 2409) (t := 2411) dL_law_2406 rfl (by decide) (fun _ => ?_) (fun z => absurd rfl z)
  refine v_iload (n := 2413) dL_law_2411 rfl rfl ?_
  have fin : VW G hh b L xs 2428 [(0, .ref b), (1, .ref (zad G.1 9 0 0)), (2, .ref (zad G.1 10 0 0)), (3, .ref (zad G.1 35 0 0)), (4, .ref (zad G.1 36 0 0)), (5, .int (nI i)), (6, .int (nI k)), (7, .int r')] [] (ov μ1 μ2) (cells + 1) (slots + 6) := v_goto (n := 2576) dL_law_2428 (by decide) (v_pick [0, 1, 2, 3, 4, 5] rfl (K _ hI3))
  refine v_if_ne (n := 2416) (t := 2428) dL_law_2413 rfl (by decide) (fun _ => fin) (fun z => ?_)
  have hk0 := nI0_of hk4 z
  refine v_aload_n (n := 2417) dL_law_2416 rfl rfl ?_
  refine v_iconst (n := 2418) (x := nI 0) dL_law_2417 rfl rfl ?_
  refine v_lald (n := 2419) (j := 0) (v := .long r.toInt64) dL_law_2418 rfl hG zokc_35 (by decide) rfl rfl (by decide) (by show Value.long (ov μ1 μ2 35 0 0 0).toInt64 = _; rw [ov_ge (Or.inl rfl), hr hk0]) ?_
  refine v_iload (n := 2421) dL_law_2419 rfl rfl ?_
  refine v_i2l (n := 2422) dL_law_2421 rfl ?_
  rw [hrr hk0]
  refine v_lcmp (n := 2423) dL_law_2422 rfl ?_
  rw [lg_self]
  exact v_if_eq (n := 2426) (t := 2428) dL_law_2423 rfl (by decide) (fun _ => by rw [hrr hk0] at fin; exact fin) (fun z => absurd rfl z)
theorem lc_errorPosition (hG : G.2.2.2 = true) (hI : Inv μ W) (hi : i + 7 ≤ L) (hL : L ≤ 3584) (hW : W + 64 < 2 ^ 30) (hc : cells + 1 ≤ 603072) (hs : slots + 6 ≤ 7202922) (K : ∀ μ', Inv μ' (W + 64) → VW G hh b L xs 2576 (LB G b (nI i)) [] μ' (cells + 1) (slots + 6)) : VW G hh b L xs 2431 (LB G b (nI i)) [] μ cells slots := by
  refine v_aload_n (n := 2432) dL_law_2431 rfl rfl ?_
  refine v_aload_n (n := 2433) dL_law_2432 rfl rfl ?_
  refine v_callH (n := 2436) (As := [.ref (zad G.1 9 0 0), .ref (zad G.1 35 0 0)]) (rest := []) dL_law_2433 rfl lk_L_265 rfl rfl (Nat.le_of_ble_eq_true rfl) ⟨Nat.le_of_ble_eq_true rfl, Nat.le_of_ble_eq_true rfl, hc, hs⟩ (lw_errorPosition hG (op_errorPosition (offG G) hI )) (fun v μ1 hp => ?_) (fun _ _ hp => False.elim hp)
  obtain ⟨k, r, μ0, hk4, rfl, hlk, hm, hr⟩ := hp
  show VW _ _ _ _ _ _ _ [.int (nI k)] _ _ _
  refine v_istore (n := 2438) (L' := [(0, .ref b), (1, .ref (zad G.1 9 0 0)), (2, .ref (zad G.1 10 0 0)), (3, .ref (zad G.1 35 0 0)), (4, .ref (zad G.1 36 0 0)), (5, .int (nI i)), (6, .int (nI k))]) dL_law_2436 rfl (show 7 ≤ 9 by decide) rfl ?_
  refine v_aload_n (n := 2439) dL_law_2438 rfl rfl ?_
  refine v_callV0 (n := 2442) (k := 10) (b := 0) (i := 0) (As := []) (rest := []) dL_law_2439 rfl lk_L_267 rfl rfl (Nat.le_of_ble_eq_true rfl) ⟨Nat.le_of_ble_eq_true rfl, Nat.le_of_ble_eq_true rfl, hc, hs⟩ zokc_10 hlk hm (fun v μ2 hp => ?_) (fun _ _ hp => False.elim hp)
  obtain ⟨r', rfl, hI2, h6, hrr⟩ := hp
  have hI3 : Inv (ov μ1 μ2) (W + 64) := hI2.lk Lk.ovr
  have h63 : ov μ1 μ2 10 0 0 6 = nI k := (ov_lt (by decide)).trans h6
  show VW _ _ _ _ _ _ _ [.int r'] _ _ _
  refine v_istore (n := 2444) (L' := [(0, .ref b), (1, .ref (zad G.1 9 0 0)), (2, .ref (zad G.1 10 0 0)), (3, .ref (zad G.1 35 0 0)), (4, .ref (zad G.1 36 0 0)), (5, .int (nI i)), (6, .int (nI k)), (7, .int r')]) dL_law_2442 rfl (show 8 ≤ 9 by decide) rfl ?_
  refine v_aload_n (n := 2445) dL_law_2444 rfl rfl ?_
  refine v_callV (n := 2448) (k := 10) (b := 0) (i := 0) (As := []) (rest := []) dL_law_2445 rfl lk_L_153 rfl rfl (Nat.le_of_ble_eq_true rfl) ⟨Nat.le_of_ble_eq_true rfl, Nat.le_of_ble_eq_true rfl, hc, hs⟩ zokc_10 (wX8_thrown G (P := fun v μ9 => v = some (.int (nI k)) ∧ μ9 = ov μ1 μ2) (X := noX) (ov μ1 μ2) ⟨by rw [h63], rfl⟩) (fun v μ9 hp => ?_) (fun _ _ hp => False.elim hp)
  obtain ⟨rfl, rfl⟩ := hp
  show VW _ _ _ _ _ _ _ [.int (nI k)] _ _ _
  refine v_iload (n := 2450) dL_law_2448 rfl rfl ?_
  refine v_icmp_eq (n := 2453) (t := 2455) dL_law_2450 rfl (by decide) (fun _ => ?_) (fun z => absurd rfl z)
  refine v_iload (n := 2457) dL_law_2455 rfl rfl ?_
  have fin : VW G hh b L xs 2472 [(0, .ref b), (1, .ref (zad G.1 9 0 0)), (2, .ref (zad G.1 10 0 0)), (3, .ref (zad G.1 35 0 0)), (4, .ref (zad G.1 36 0 0)), (5, .int (nI i)), (6, .int (nI k)), (7, .int r')] [] (ov μ1 μ2) (cells + 1) (slots + 6) := v_goto (n := 2576) dL_law_2472 (by decide) (v_pick [0, 1, 2, 3, 4, 5] rfl (K _ hI3))
  refine v_if_ne (n := 2460) (t := 2472) dL_law_2457 rfl (by decide) (fun _ => fin) (fun z => ?_)
  have hk0 := nI0_of hk4 z
  refine v_aload_n (n := 2461) dL_law_2460 rfl rfl ?_
  refine v_iconst (n := 2462) (x := nI 0) dL_law_2461 rfl rfl ?_
  refine v_lald (n := 2463) (j := 0) (v := .long r.toInt64) dL_law_2462 rfl hG zokc_35 (by decide) rfl rfl (by decide) (by show Value.long (ov μ1 μ2 35 0 0 0).toInt64 = _; rw [ov_ge (Or.inl rfl), hr hk0]) ?_
  refine v_iload (n := 2465) dL_law_2463 rfl rfl ?_
  refine v_i2l (n := 2466) dL_law_2465 rfl ?_
  rw [hrr hk0]
  refine v_lcmp (n := 2467) dL_law_2466 rfl ?_
  rw [lg_self]
  exact v_if_eq (n := 2470) (t := 2472) dL_law_2467 rfl (by decide) (fun _ => by rw [hrr hk0] at fin; exact fin) (fun z => absurd rfl z)
theorem lc_undo (hG : G.2.2.2 = true) (hI : Inv μ W) (hi : i + 7 ≤ L) (hL : L ≤ 3584) (hW : W + 64 < 2 ^ 30) (hc : cells + 1 ≤ 603072) (hs : slots + 6 ≤ 7202922) (K : ∀ μ', Inv μ' (W + 64) → VW G hh b L xs 2576 (LB G b (nI i)) [] μ' (cells + 1) (slots + 6)) : VW G hh b L xs 2475 (LB G b (nI i)) [] μ cells slots := by
  refine v_aload_n (n := 2476) dL_law_2475 rfl rfl ?_
  refine v_aload_n (n := 2477) dL_law_2476 rfl rfl ?_
  refine v_callH (n := 2480) (As := [.ref (zad G.1 9 0 0), .ref (zad G.1 35 0 0)]) (rest := []) dL_law_2477 rfl lk_L_268 rfl rfl (Nat.le_of_ble_eq_true rfl) ⟨Nat.le_of_ble_eq_true rfl, Nat.le_of_ble_eq_true rfl, hc, hs⟩ (lw_undo hG (op_undo (offG G) hI )) (fun v μ1 hp => ?_) (fun _ _ hp => False.elim hp)
  obtain ⟨k, r, μ0, hk4, rfl, hlk, hm, hr⟩ := hp
  show VW _ _ _ _ _ _ _ [.int (nI k)] _ _ _
  refine v_istore (n := 2482) (L' := [(0, .ref b), (1, .ref (zad G.1 9 0 0)), (2, .ref (zad G.1 10 0 0)), (3, .ref (zad G.1 35 0 0)), (4, .ref (zad G.1 36 0 0)), (5, .int (nI i)), (6, .int (nI k))]) dL_law_2480 rfl (show 7 ≤ 9 by decide) rfl ?_
  refine v_aload_n (n := 2483) dL_law_2482 rfl rfl ?_
  refine v_callV0 (n := 2486) (k := 10) (b := 0) (i := 0) (As := []) (rest := []) dL_law_2483 rfl lk_L_270 rfl rfl (Nat.le_of_ble_eq_true rfl) ⟨Nat.le_of_ble_eq_true rfl, Nat.le_of_ble_eq_true rfl, hc, hs⟩ zokc_10 hlk hm (fun v μ2 hp => ?_) (fun _ _ hp => False.elim hp)
  obtain ⟨r', rfl, hI2, h6, hrr⟩ := hp
  have hI3 : Inv (ov μ1 μ2) (W + 64) := hI2.lk Lk.ovr
  have h63 : ov μ1 μ2 10 0 0 6 = nI k := (ov_lt (by decide)).trans h6
  show VW _ _ _ _ _ _ _ [.int r'] _ _ _
  refine v_istore (n := 2488) (L' := [(0, .ref b), (1, .ref (zad G.1 9 0 0)), (2, .ref (zad G.1 10 0 0)), (3, .ref (zad G.1 35 0 0)), (4, .ref (zad G.1 36 0 0)), (5, .int (nI i)), (6, .int (nI k)), (7, .int r')]) dL_law_2486 rfl (show 8 ≤ 9 by decide) rfl ?_
  refine v_aload_n (n := 2489) dL_law_2488 rfl rfl ?_
  refine v_callV (n := 2492) (k := 10) (b := 0) (i := 0) (As := []) (rest := []) dL_law_2489 rfl lk_L_153 rfl rfl (Nat.le_of_ble_eq_true rfl) ⟨Nat.le_of_ble_eq_true rfl, Nat.le_of_ble_eq_true rfl, hc, hs⟩ zokc_10 (wX8_thrown G (P := fun v μ9 => v = some (.int (nI k)) ∧ μ9 = ov μ1 μ2) (X := noX) (ov μ1 μ2) ⟨by rw [h63], rfl⟩) (fun v μ9 hp => ?_) (fun _ _ hp => False.elim hp)
  obtain ⟨rfl, rfl⟩ := hp
  show VW _ _ _ _ _ _ _ [.int (nI k)] _ _ _
  refine v_iload (n := 2494) dL_law_2492 rfl rfl ?_
  refine v_icmp_eq (n := 2497) (t := 2499) dL_law_2494 rfl (by decide) (fun _ => ?_) (fun z => absurd rfl z)
  refine v_iload (n := 2501) dL_law_2499 rfl rfl ?_
  have fin : VW G hh b L xs 2516 [(0, .ref b), (1, .ref (zad G.1 9 0 0)), (2, .ref (zad G.1 10 0 0)), (3, .ref (zad G.1 35 0 0)), (4, .ref (zad G.1 36 0 0)), (5, .int (nI i)), (6, .int (nI k)), (7, .int r')] [] (ov μ1 μ2) (cells + 1) (slots + 6) := v_goto (n := 2576) dL_law_2516 (by decide) (v_pick [0, 1, 2, 3, 4, 5] rfl (K _ hI3))
  refine v_if_ne (n := 2504) (t := 2516) dL_law_2501 rfl (by decide) (fun _ => fin) (fun z => ?_)
  have hk0 := nI0_of hk4 z
  refine v_aload_n (n := 2505) dL_law_2504 rfl rfl ?_
  refine v_iconst (n := 2506) (x := nI 0) dL_law_2505 rfl rfl ?_
  refine v_lald (n := 2507) (j := 0) (v := .long r.toInt64) dL_law_2506 rfl hG zokc_35 (by decide) rfl rfl (by decide) (by show Value.long (ov μ1 μ2 35 0 0 0).toInt64 = _; rw [ov_ge (Or.inl rfl), hr hk0]) ?_
  refine v_iload (n := 2509) dL_law_2507 rfl rfl ?_
  refine v_i2l (n := 2510) dL_law_2509 rfl ?_
  rw [hrr hk0]
  refine v_lcmp (n := 2511) dL_law_2510 rfl ?_
  rw [lg_self]
  exact v_if_eq (n := 2514) (t := 2516) dL_law_2511 rfl (by decide) (fun _ => by rw [hrr hk0] at fin; exact fin) (fun z => absurd rfl z)
theorem lc_save (hG : G.2.2.2 = true) (hI : Inv μ W) (hi : i + 7 ≤ L) (hL : L ≤ 3584) (hW : W + 64 < 2 ^ 30) (hc : cells + 1 ≤ 603072) (hs : slots + 6 ≤ 7202922) (K : ∀ μ', Inv μ' (W + 64) → VW G hh b L xs 2576 (LB G b (nI i)) [] μ' (cells + 1) (slots + 6)) : VW G hh b L xs 2519 (LB G b (nI i)) [] μ cells slots := by
  refine v_aload_n (n := 2520) dL_law_2519 rfl rfl ?_
  refine v_callV0 (n := 2523) (k := 9) (b := 0) (i := 0) (As := []) (rest := []) dL_law_2520 rfl lk_L_271 rfl rfl (Nat.le_of_ble_eq_true rfl) ⟨Nat.le_of_ble_eq_true rfl, Nat.le_of_ble_eq_true rfl, Nat.le_of_succ_le hc, Nat.le_trans (Nat.le_add_right _ _) hs⟩ zokc_9 (Lk.refl μ) (op_save (offG G) hI) (fun v μ1 hp => ?_) (fun E μ1 hp => by obtain ⟨k, hk, -⟩ := hp; simp at hk)
  obtain ⟨r, rfl, hm⟩ := hp
  show VW _ _ _ _ _ _ _ [.int r] _ _ _
  refine v_aload_n (n := 2524) dL_law_2523 rfl rfl ?_
  refine v_callV0 (n := 2527) (k := 10) (b := 0) (i := 0) (As := []) (rest := [.int r]) dL_law_2524 rfl lk_L_274 rfl rfl (Nat.le_of_ble_eq_true rfl) ⟨Nat.le_of_ble_eq_true rfl, Nat.le_of_ble_eq_true rfl, Nat.le_of_succ_le hc, Nat.le_trans (Nat.le_add_right _ _) hs⟩ zokc_10 Lk.ovr hm (fun v μ2 hp => ?_) (fun _ _ hp => False.elim hp)
  obtain ⟨r', rfl, hI2, h6, hrr⟩ := hp
  show VW _ _ _ _ _ _ _ [.int r', .int r] _ _ _
  rw [hrr rfl]
  refine v_icmp_eq (n := 2530) (t := 2576) dL_law_2527 rfl (by decide) (fun _ => ?_) (fun z => absurd rfl z)
  exact v_wide (a := cells + 1) (b := slots + 6) (Nat.le_succ _) (Nat.le_add_right _ _) (K _ (hI2.lk Lk.ovr))
theorem lc_restore (hG : G.2.2.2 = true) (hI : Inv μ W) (hi : i + 7 ≤ L) (hL : L ≤ 3584) (hW : W + 64 < 2 ^ 30) (hc : cells + 1 ≤ 603072) (hs : slots + 6 ≤ 7202922) (K : ∀ μ', Inv μ' (W + 64) → VW G hh b L xs 2576 (LB G b (nI i)) [] μ' (cells + 1) (slots + 6)) : VW G hh b L xs 2532 (LB G b (nI i)) [] μ cells slots := by
  refine v_aload_n (n := 2533) dL_law_2532 rfl rfl ?_
  refine v_aload_n (n := 2534) dL_law_2533 rfl rfl ?_
  refine v_callH (n := 2537) (As := [.ref (zad G.1 9 0 0), .ref (zad G.1 35 0 0)]) (rest := []) dL_law_2534 rfl lk_L_275 rfl rfl (Nat.le_of_ble_eq_true rfl) ⟨Nat.le_of_ble_eq_true rfl, Nat.le_of_ble_eq_true rfl, hc, hs⟩ (lw_restore hG (op_restore (offG G) hI )) (fun v μ1 hp => ?_) (fun _ _ hp => False.elim hp)
  obtain ⟨k, r, μ0, hk4, rfl, hlk, hm, hr⟩ := hp
  show VW _ _ _ _ _ _ _ [.int (nI k)] _ _ _
  refine v_istore (n := 2539) (L' := [(0, .ref b), (1, .ref (zad G.1 9 0 0)), (2, .ref (zad G.1 10 0 0)), (3, .ref (zad G.1 35 0 0)), (4, .ref (zad G.1 36 0 0)), (5, .int (nI i)), (6, .int (nI k))]) dL_law_2537 rfl (show 7 ≤ 9 by decide) rfl ?_
  refine v_aload_n (n := 2540) dL_law_2539 rfl rfl ?_
  refine v_callV0 (n := 2543) (k := 10) (b := 0) (i := 0) (As := []) (rest := []) dL_law_2540 rfl lk_L_277 rfl rfl (Nat.le_of_ble_eq_true rfl) ⟨Nat.le_of_ble_eq_true rfl, Nat.le_of_ble_eq_true rfl, hc, hs⟩ zokc_10 hlk hm (fun v μ2 hp => ?_) (fun _ _ hp => False.elim hp)
  obtain ⟨r', rfl, hI2, h6, hrr⟩ := hp
  have hI3 : Inv (ov μ1 μ2) (W + 64) := hI2.lk Lk.ovr
  have h63 : ov μ1 μ2 10 0 0 6 = nI k := (ov_lt (by decide)).trans h6
  show VW _ _ _ _ _ _ _ [.int r'] _ _ _
  refine v_istore (n := 2545) (L' := [(0, .ref b), (1, .ref (zad G.1 9 0 0)), (2, .ref (zad G.1 10 0 0)), (3, .ref (zad G.1 35 0 0)), (4, .ref (zad G.1 36 0 0)), (5, .int (nI i)), (6, .int (nI k)), (7, .int r')]) dL_law_2543 rfl (show 8 ≤ 9 by decide) rfl ?_
  refine v_aload_n (n := 2546) dL_law_2545 rfl rfl ?_
  refine v_callV (n := 2549) (k := 10) (b := 0) (i := 0) (As := []) (rest := []) dL_law_2546 rfl lk_L_153 rfl rfl (Nat.le_of_ble_eq_true rfl) ⟨Nat.le_of_ble_eq_true rfl, Nat.le_of_ble_eq_true rfl, hc, hs⟩ zokc_10 (wX8_thrown G (P := fun v μ9 => v = some (.int (nI k)) ∧ μ9 = ov μ1 μ2) (X := noX) (ov μ1 μ2) ⟨by rw [h63], rfl⟩) (fun v μ9 hp => ?_) (fun _ _ hp => False.elim hp)
  obtain ⟨rfl, rfl⟩ := hp
  show VW _ _ _ _ _ _ _ [.int (nI k)] _ _ _
  refine v_iload (n := 2551) dL_law_2549 rfl rfl ?_
  refine v_icmp_eq (n := 2554) (t := 2556) dL_law_2551 rfl (by decide) (fun _ => ?_) (fun z => absurd rfl z)
  refine v_iload (n := 2558) dL_law_2556 rfl rfl ?_
  have fin : VW G hh b L xs 2573 [(0, .ref b), (1, .ref (zad G.1 9 0 0)), (2, .ref (zad G.1 10 0 0)), (3, .ref (zad G.1 35 0 0)), (4, .ref (zad G.1 36 0 0)), (5, .int (nI i)), (6, .int (nI k)), (7, .int r')] [] (ov μ1 μ2) (cells + 1) (slots + 6) := v_goto (n := 2576) dL_law_2573 (by decide) (v_pick [0, 1, 2, 3, 4, 5] rfl (K _ hI3))
  refine v_if_ne (n := 2561) (t := 2573) dL_law_2558 rfl (by decide) (fun _ => fin) (fun z => ?_)
  have hk0 := nI0_of hk4 z
  refine v_aload_n (n := 2562) dL_law_2561 rfl rfl ?_
  refine v_iconst (n := 2563) (x := nI 0) dL_law_2562 rfl rfl ?_
  refine v_lald (n := 2564) (j := 0) (v := .long r.toInt64) dL_law_2563 rfl hG zokc_35 (by decide) rfl rfl (by decide) (by show Value.long (ov μ1 μ2 35 0 0 0).toInt64 = _; rw [ov_ge (Or.inl rfl), hr hk0]) ?_
  refine v_iload (n := 2566) dL_law_2564 rfl rfl ?_
  refine v_i2l (n := 2567) dL_law_2566 rfl ?_
  rw [hrr hk0]
  refine v_lcmp (n := 2568) dL_law_2567 rfl ?_
  rw [lg_self]
  exact v_if_eq (n := 2571) (t := 2573) dL_law_2568 rfl (by decide) (fun _ => by rw [hrr hk0] at fin; exact fin) (fun z => absurd rfl z)
end LCases
