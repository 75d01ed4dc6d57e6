/-! ===== the law: its cases ===== -/
set_option maxRecDepth 100000 in
set_option maxHeartbeats 4000000 in
theorem law_c0 {w : MC} {k : WC} {d n : Nat} {xs : Nat → Int32} {n1 n2 : Nat} {i : Int} {S : BaS} {th : Int} {f : Int → Int} {h : AH} {z5 z6 : Option AV} (hd : 310 ≤ d) (hntr : k.1.stackTraces = false) (hc : Cx w k d 601024 7293034 mdL_law) (hsc : Sc w n xs) (hi0 : 0 ≤ i) (hi1 : i + 9 ≤ n) (hn1 : n1 + 20 ≤ 601024) (hn2 : n2 + 10000 ≤ 7293034) (hst : LwS h S th f) (hk : ∀ (m1 m2 : Nat) (S1 : BaS) (th1 : Int) (f1 : Int → Int) (h1 : AH) (y5 y6 : Option AV), m1 ≤ n1 + 20 → m2 ≤ n2 + 10000 → LwS h1 S1 th1 f1 → JL w m1 m2 2052 [none, some (vR (0, 0)), some (vR (70, 0)), some (vR (99, 0)), some (vI i), y5, y6] [] h1) : JL w n1 n2 192 [none, some (vR (0, 0)), some (vR (70, 0)), some (vR (99, 0)), some (vI i), z5, z6] [] h := by
  obtain ⟨hB, hM, hO⟩ := id hst
  refine l_aload_n hc dL_law_192 rfl ?_
  refine l_arg hc hsc dL_law_193 dL_law_194 dL_law_196 dL_law_197 dL_law_198 rfl (by omega) (by omega) ?_
  refine l_arg hc hsc dL_law_199 dL_law_200 dL_law_202 dL_law_203 dL_law_204 rfl (by omega) (by omega) ?_
  refine l_arg hc hsc dL_law_205 dL_law_206 dL_law_208 dL_law_209 dL_law_210 rfl (by omega) (by omega) ?_
  refine l_arg hc hsc dL_law_211 dL_law_212 dL_law_214 dL_law_215 dL_law_216 rfl (by omega) (by omega) ?_
  refine l_arg hc hsc dL_law_217 dL_law_218 dL_law_220 dL_law_221 dL_law_222 rfl (by omega) (by omega) ?_
  refine l_callV (d' := d - 1) hc dL_law_223 vL_27 hB.1.1.1 (ev_X10_feed (by omega) hB ) rfl (by omega) (by omega) (by omega) rfl rfl (Nat.le_of_ble_eq_true rfl) (l_retE fun zv1 zq1 zp1 => ?_)
  obtain ⟨zv, zB1, zF1⟩ := zp1
  subst zv
  obtain ⟨zM1, zO1⟩ := hst.ba zF1
  refine l_aload_n hc dL_law_226 rfl ?_
  refine l_arg hc hsc dL_law_227 dL_law_228 dL_law_230 dL_law_231 dL_law_232 rfl (by omega) (by omega) ?_
  refine l_arg hc hsc dL_law_233 dL_law_234 dL_law_236 dL_law_237 dL_law_238 rfl (by omega) (by omega) ?_
  refine l_arg hc hsc dL_law_239 dL_law_240 dL_law_242 dL_law_243 dL_law_244 rfl (by omega) (by omega) ?_
  refine l_arg hc hsc dL_law_245 dL_law_246 dL_law_248 dL_law_249 dL_law_250 rfl (by omega) (by omega) ?_
  refine l_arg hc hsc dL_law_251 dL_law_252 dL_law_254 dL_law_255 dL_law_256 rfl (by omega) (by omega) ?_
  refine l_callV (d' := d - 1) hc dL_law_257 vL_31 zM1.choose_spec.choose_spec.1.1 (ev_X11_feed_a (by omega) zM1 zB1.2.2.2.2.2) rfl (by omega) (by omega) (by omega) rfl rfl (Nat.le_of_ble_eq_true rfl) (l_retE fun zv2 zq2 zp2 => ?_)
  obtain ⟨zv, zM2, zF2⟩ := zp2
  subst zv
  refine l_icmp_same (tgt := 2052) hc dL_law_260 (by decide) ?_
  exact hk _ _ _ _ _ _ _ _ (by omega) (by omega) ⟨zB1.mo zF2, zM2, mo_99 zF2 zO1⟩
set_option maxRecDepth 100000 in
set_option maxHeartbeats 4000000 in
theorem law_c1 {w : MC} {k : WC} {d n : Nat} {xs : Nat → Int32} {n1 n2 : Nat} {i : Int} {S : BaS} {th : Int} {f : Int → Int} {h : AH} {z5 z6 : Option AV} (hd : 310 ≤ d) (hntr : k.1.stackTraces = false) (hc : Cx w k d 601024 7293034 mdL_law) (hsc : Sc w n xs) (hi0 : 0 ≤ i) (hi1 : i + 9 ≤ n) (hn1 : n1 + 20 ≤ 601024) (hn2 : n2 + 10000 ≤ 7293034) (hst : LwS h S th f) (hk : ∀ (m1 m2 : Nat) (S1 : BaS) (th1 : Int) (f1 : Int → Int) (h1 : AH) (y5 y6 : Option AV), m1 ≤ n1 + 20 → m2 ≤ n2 + 10000 → LwS h1 S1 th1 f1 → JL w m1 m2 2052 [none, some (vR (0, 0)), some (vR (70, 0)), some (vR (99, 0)), some (vI i), y5, y6] [] h1) : JL w n1 n2 265 [none, some (vR (0, 0)), some (vR (70, 0)), some (vR (99, 0)), some (vI i), z5, z6] [] h := by
  obtain ⟨hB, hM, hO⟩ := id hst
  refine l_aload_n hc dL_law_265 rfl ?_
  refine l_arg hc hsc dL_law_266 dL_law_267 dL_law_269 dL_law_270 dL_law_271 rfl (by omega) (by omega) ?_
  refine l_callV (d' := d - 1) hc dL_law_272 vL_32 hB.1.1.1 (ev_X10_end_a (by omega) hB (scx_in _ _)) rfl (by omega) (by omega) (by omega) rfl rfl (Nat.le_of_ble_eq_true rfl) (l_retE fun zv1 zq1 zp1 => ?_)
  obtain ⟨zv, zB1, zF1⟩ := zp1
  subst zv
  obtain ⟨zM1, zO1⟩ := hst.ba zF1
  refine l_aload_n hc dL_law_275 rfl ?_
  refine l_arg hc hsc dL_law_276 dL_law_277 dL_law_279 dL_law_280 dL_law_281 rfl (by omega) (by omega) ?_
  refine l_callV (d' := d - 1) hc dL_law_282 vL_36 zM1.choose_spec.choose_spec.1.1 (ev_X11_end_a (by omega) zM1 (scx_in _ _) zB1.2.2.2.2.2) rfl (by omega) (by omega) (by omega) rfl rfl (Nat.le_of_ble_eq_true rfl) (l_retE fun zv2 zq2 zp2 => ?_)
  obtain ⟨zv, zM2, zF2⟩ := zp2
  subst zv
  refine l_icmp_same (tgt := 2052) hc dL_law_285 (by decide) ?_
  exact hk _ _ _ _ _ _ _ _ (by omega) (by omega) ⟨zB1.mo zF2, zM2, mo_99 zF2 zO1⟩
set_option maxRecDepth 100000 in
set_option maxHeartbeats 4000000 in
theorem law_c2 {w : MC} {k : WC} {d n : Nat} {xs : Nat → Int32} {n1 n2 : Nat} {i : Int} {S : BaS} {th : Int} {f : Int → Int} {h : AH} {z5 z6 : Option AV} (hd : 310 ≤ d) (hntr : k.1.stackTraces = false) (hc : Cx w k d 601024 7293034 mdL_law) (hsc : Sc w n xs) (hi0 : 0 ≤ i) (hi1 : i + 9 ≤ n) (hn1 : n1 + 20 ≤ 601024) (hn2 : n2 + 10000 ≤ 7293034) (hst : LwS h S th f) (hk : ∀ (m1 m2 : Nat) (S1 : BaS) (th1 : Int) (f1 : Int → Int) (h1 : AH) (y5 y6 : Option AV), m1 ≤ n1 + 20 → m2 ≤ n2 + 10000 → LwS h1 S1 th1 f1 → JL w m1 m2 2052 [none, some (vR (0, 0)), some (vR (70, 0)), some (vR (99, 0)), some (vI i), y5, y6] [] h1) : JL w n1 n2 290 [none, some (vR (0, 0)), some (vR (70, 0)), some (vR (99, 0)), some (vI i), z5, z6] [] h := by
  obtain ⟨hB, hM, hO⟩ := id hst
  refine l_aload_n hc dL_law_290 rfl ?_
  refine l_arg hc hsc dL_law_291 dL_law_292 dL_law_294 dL_law_295 dL_law_296 rfl (by omega) (by omega) ?_
  refine l_callV (d' := d - 1) hc dL_law_297 vL_37 hB.1.1.1 (ev_X10_fault_a (by omega) hB (scx_in _ _)) rfl (by omega) (by omega) (by omega) rfl rfl (Nat.le_of_ble_eq_true rfl) (l_retE fun zv1 zq1 zp1 => ?_)
  obtain ⟨⟨zx, zv, zfa⟩, zB1, zF1⟩ := zp1
  subst zv
  obtain ⟨zM1, zO1⟩ := hst.ba zF1
  refine l_aload_n hc dL_law_300 rfl ?_
  refine l_arg hc hsc dL_law_301 dL_law_302 dL_law_304 dL_law_305 dL_law_306 rfl (by omega) (by omega) ?_
  refine l_callV (d' := d - 1) hc dL_law_307 vL_41 zM1.choose_spec.choose_spec.1.1 (ev_X11_fault_a (by omega) zM1 (scx_in _ _) zfa) rfl (by omega) (by omega) (by omega) rfl rfl (Nat.le_of_ble_eq_true rfl) (l_retE fun zv2 zq2 zp2 => ?_)
  obtain ⟨zv, zM2, zF2⟩ := zp2
  subst zv
  refine l_icmp_same (tgt := 2052) hc dL_law_310 (by decide) ?_
  exact hk _ _ _ _ _ _ _ _ (by omega) (by omega) ⟨zB1.mo zF2, zM2, mo_99 zF2 zO1⟩
set_option maxRecDepth 100000 in
set_option maxHeartbeats 4000000 in
theorem law_c3 {w : MC} {k : WC} {d n : Nat} {xs : Nat → Int32} {n1 n2 : Nat} {i : Int} {S : BaS} {th : Int} {f : Int → Int} {h : AH} {z5 z6 : Option AV} (hd : 310 ≤ d) (hntr : k.1.stackTraces = false) (hc : Cx w k d 601024 7293034 mdL_law) (hsc : Sc w n xs) (hi0 : 0 ≤ i) (hi1 : i + 9 ≤ n) (hn1 : n1 + 20 ≤ 601024) (hn2 : n2 + 10000 ≤ 7293034) (hst : LwS h S th f) (hk : ∀ (m1 m2 : Nat) (S1 : BaS) (th1 : Int) (f1 : Int → Int) (h1 : AH) (y5 y6 : Option AV), m1 ≤ n1 + 20 → m2 ≤ n2 + 10000 → LwS h1 S1 th1 f1 → JL w m1 m2 2052 [none, some (vR (0, 0)), some (vR (70, 0)), some (vR (99, 0)), some (vI i), y5, y6] [] h1) : JL w n1 n2 315 [none, some (vR (0, 0)), some (vR (70, 0)), some (vR (99, 0)), some (vI i), z5, z6] [] h := by
  obtain ⟨hB, hM, hO⟩ := id hst
  refine l_aload_n hc dL_law_315 rfl ?_
  refine l_callV (d' := d - 1) hc dL_law_316 vL_42 hB.1.1.1 (ev_X10_land_a (by omega) hB ) rfl (by omega) (by omega) (by omega) rfl rfl (Nat.le_of_ble_eq_true rfl) (l_retE fun zv1 zq1 zp1 => ?_)
  obtain ⟨zx, zS, zv, zla, zB1, zF1⟩ := zp1
  subst zv
  obtain ⟨zM1, zO1⟩ := hst.ba zF1
  refine l_aload_n hc dL_law_319 rfl ?_
  refine l_callV (d' := d - 1) hc dL_law_320 vL_46 zM1.choose_spec.choose_spec.1.1 (ev_X11_land_a (by omega) zM1 zla zB1.2.2.2.2.2) rfl (by omega) (by omega) (by omega) rfl rfl (Nat.le_of_ble_eq_true rfl) (l_retE fun zv2 zq2 zp2 => ?_)
  obtain ⟨zv, zM2, zF2⟩ := zp2
  subst zv
  refine l_icmp_same (tgt := 2052) hc dL_law_323 (by decide) ?_
  exact hk _ _ _ _ _ _ _ _ (by omega) (by omega) ⟨zB1.mo zF2, zM2, mo_99 zF2 zO1⟩
set_option maxRecDepth 100000 in
set_option maxHeartbeats 4000000 in
theorem law_c4 {w : MC} {k : WC} {d n : Nat} {xs : Nat → Int32} {n1 n2 : Nat} {i : Int} {S : BaS} {th : Int} {f : Int → Int} {h : AH} {z5 z6 : Option AV} (hd : 310 ≤ d) (hntr : k.1.stackTraces = false) (hc : Cx w k d 601024 7293034 mdL_law) (hsc : Sc w n xs) (hi0 : 0 ≤ i) (hi1 : i + 9 ≤ n) (hn1 : n1 + 20 ≤ 601024) (hn2 : n2 + 10000 ≤ 7293034) (hst : LwS h S th f) (hk : ∀ (m1 m2 : Nat) (S1 : BaS) (th1 : Int) (f1 : Int → Int) (h1 : AH) (y5 y6 : Option AV), m1 ≤ n1 + 20 → m2 ≤ n2 + 10000 → LwS h1 S1 th1 f1 → JL w m1 m2 2052 [none, some (vR (0, 0)), some (vR (70, 0)), some (vR (99, 0)), some (vI i), y5, y6] [] h1) : JL w n1 n2 328 [none, some (vR (0, 0)), some (vR (70, 0)), some (vR (99, 0)), some (vI i), z5, z6] [] h := by
  obtain ⟨hB, hM, hO⟩ := id hst
  refine l_aload_n hc dL_law_328 rfl ?_
  refine l_callV (d' := d - 1) hc dL_law_329 vL_47 hB.1.1.1 (ev_X10_rule_a (by omega) hB ) rfl (by omega) (by omega) (by omega) rfl rfl (Nat.le_of_ble_eq_true rfl) (l_retE fun zv1 zq1 zp1 => ?_)
  obtain ⟨zv, zB1, zF1⟩ := zp1
  subst zv
  obtain ⟨zM1, zO1⟩ := hst.ba zF1
  refine l_aload_n hc dL_law_332 rfl ?_
  refine l_callV (d' := d - 1) hc dL_law_333 vL_50 zM1.choose_spec.choose_spec.1.1 (ev_X11_rule_a (by omega) zM1 zB1.2.2.2.2.2) rfl (by omega) (by omega) (by omega) rfl rfl (Nat.le_of_ble_eq_true rfl) (l_retE fun zv2 zq2 zp2 => ?_)
  obtain ⟨zv, zM2, zF2⟩ := zp2
  subst zv
  refine l_icmp_same (tgt := 2052) hc dL_law_336 (by decide) ?_
  exact hk _ _ _ _ _ _ _ _ (by omega) (by omega) ⟨zB1.mo zF2, zM2, mo_99 zF2 zO1⟩
set_option maxRecDepth 100000 in
set_option maxHeartbeats 4000000 in
theorem law_c5 {w : MC} {k : WC} {d n : Nat} {xs : Nat → Int32} {n1 n2 : Nat} {i : Int} {S : BaS} {th : Int} {f : Int → Int} {h : AH} {z5 z6 : Option AV} (hd : 310 ≤ d) (hntr : k.1.stackTraces = false) (hc : Cx w k d 601024 7293034 mdL_law) (hsc : Sc w n xs) (hi0 : 0 ≤ i) (hi1 : i + 9 ≤ n) (hn1 : n1 + 20 ≤ 601024) (hn2 : n2 + 10000 ≤ 7293034) (hst : LwS h S th f) (hk : ∀ (m1 m2 : Nat) (S1 : BaS) (th1 : Int) (f1 : Int → Int) (h1 : AH) (y5 y6 : Option AV), m1 ≤ n1 + 20 → m2 ≤ n2 + 10000 → LwS h1 S1 th1 f1 → JL w m1 m2 2052 [none, some (vR (0, 0)), some (vR (70, 0)), some (vR (99, 0)), some (vI i), y5, y6] [] h1) : JL w n1 n2 341 [none, some (vR (0, 0)), some (vR (70, 0)), some (vR (99, 0)), some (vI i), z5, z6] [] h := by
  obtain ⟨hB, hM, hO⟩ := id hst
  refine l_aload_n hc dL_law_341 rfl ?_
  refine l_arg hc hsc dL_law_342 dL_law_343 dL_law_345 dL_law_346 dL_law_347 rfl (by omega) (by omega) ?_
  refine l_arg hc hsc dL_law_348 dL_law_349 dL_law_351 dL_law_352 dL_law_353 rfl (by omega) (by omega) ?_
  refine l_callV (d' := d - 1) hc dL_law_354 vL_51 hB.1.1.1 (ev_X10_told_a (by omega) hB (scx_in _ _) (scx_in _ _)) rfl (by omega) (by omega) (by omega) rfl rfl (Nat.le_of_ble_eq_true rfl) (l_ret1 ?_)
  refine l_aload_n hc dL_law_357 rfl ?_
  refine l_arg hc hsc dL_law_358 dL_law_359 dL_law_361 dL_law_362 dL_law_363 rfl (by omega) (by omega) ?_
  refine l_arg hc hsc dL_law_364 dL_law_365 dL_law_367 dL_law_368 dL_law_369 rfl (by omega) (by omega) ?_
  refine l_callV (d' := d - 1) hc dL_law_370 vL_55 hM.choose_spec.choose_spec.1.1 (ev_X11_told_a (by omega) hM (scx_in _ _) (scx_in _ _)) rfl (by omega) (by omega) (by omega) rfl rfl (Nat.le_of_ble_eq_true rfl) (l_ret1 ?_)
  refine l_icmp_same (tgt := 2052) hc dL_law_373 (by decide) ?_
  exact hk _ _ _ _ _ _ _ _ (by omega) (by omega) ⟨hB, hM, hO⟩
set_option maxRecDepth 100000 in
set_option maxHeartbeats 4000000 in
theorem law_c6 {w : MC} {k : WC} {d n : Nat} {xs : Nat → Int32} {n1 n2 : Nat} {i : Int} {S : BaS} {th : Int} {f : Int → Int} {h : AH} {z5 z6 : Option AV} (hd : 310 ≤ d) (hntr : k.1.stackTraces = false) (hc : Cx w k d 601024 7293034 mdL_law) (hsc : Sc w n xs) (hi0 : 0 ≤ i) (hi1 : i + 9 ≤ n) (hn1 : n1 + 20 ≤ 601024) (hn2 : n2 + 10000 ≤ 7293034) (hst : LwS h S th f) (hk : ∀ (m1 m2 : Nat) (S1 : BaS) (th1 : Int) (f1 : Int → Int) (h1 : AH) (y5 y6 : Option AV), m1 ≤ n1 + 20 → m2 ≤ n2 + 10000 → LwS h1 S1 th1 f1 → JL w m1 m2 2052 [none, some (vR (0, 0)), some (vR (70, 0)), some (vR (99, 0)), some (vI i), y5, y6] [] h1) : JL w n1 n2 378 [none, some (vR (0, 0)), some (vR (70, 0)), some (vR (99, 0)), some (vI i), z5, z6] [] h := by
  obtain ⟨hB, hM, hO⟩ := id hst
  refine l_aload_n hc dL_law_378 rfl ?_
  refine l_arg hc hsc dL_law_379 dL_law_380 dL_law_382 dL_law_383 dL_law_384 rfl (by omega) (by omega) ?_
  refine l_arg hc hsc dL_law_385 dL_law_386 dL_law_388 dL_law_389 dL_law_390 rfl (by omega) (by omega) ?_
  refine l_arg hc hsc dL_law_391 dL_law_392 dL_law_394 dL_law_395 dL_law_396 rfl (by omega) (by omega) ?_
  refine l_arg hc hsc dL_law_397 dL_law_398 dL_law_400 dL_law_401 dL_law_402 rfl (by omega) (by omega) ?_
  refine l_aload_n hc dL_law_403 rfl ?_
  refine l_callSW (d' := d - 1) hc hsc dL_law_404 sL_56 (ev_L_harvest (by omega) hntr hB hO (scx_in _ _) (scx_in _ _) (scx_in _ _) (scx_in _ _)) rfl (by omega) (by omega) (by omega) rfl rfl (Nat.le_of_ble_eq_true rfl) (l_retE fun zv1 zq1 zp1 => ?_)
  obtain ⟨zv, ⟨zg, zO1, zgv⟩, zB1, zF1⟩ := zp1
  subst zv
  have zM1 := hst.bl zF1
  refine l_istore (L' := [_, _, _, _, _, _, _]) hc dL_law_407 (Nat.le_of_ble_eq_true rfl) (by decide) rfl ?_
  refine l_aload_n hc dL_law_409 rfl ?_
  refine l_arg hc hsc dL_law_410 dL_law_411 dL_law_413 dL_law_414 dL_law_415 rfl (by omega) (by omega) ?_
  refine l_arg hc hsc dL_law_416 dL_law_417 dL_law_419 dL_law_420 dL_law_421 rfl (by omega) (by omega) ?_
  refine l_arg hc hsc dL_law_422 dL_law_423 dL_law_425 dL_law_426 dL_law_427 rfl (by omega) (by omega) ?_
  refine l_arg hc hsc dL_law_428 dL_law_429 dL_law_431 dL_law_432 dL_law_433 rfl (by omega) (by omega) ?_
  refine l_callV (d' := d - 1) hc dL_law_434 vL_61 zM1.choose_spec.choose_spec.1.1 (ev_X11_harvest_a (by omega) zM1 (scx_in _ _) (scx_in _ _) (scx_in _ _) (scx_in _ _)) rfl (by omega) (by omega) (by omega) rfl rfl (Nat.le_of_ble_eq_true rfl) (l_retE fun zv2 zq2 zp2 => ?_)
  obtain ⟨zv, zM2, zF2⟩ := zp2
  subst zv
  have zB2 := zB1.mo zF2
  have zO2 := mo_99 zF2 zO1
  refine l_istore (L' := [_, _, _, _, _, _, _]) hc dL_law_437 (Nat.le_of_ble_eq_true rfl) (by decide) rfl ?_
  refine l_aload_n hc dL_law_439 rfl ?_
  refine l_callV (d' := d - 1) hc dL_law_440 vL_62 zM2.choose_spec.choose_spec.1.1 (ev_X11_thrown (by omega) zM2) rfl (by omega) (by omega) (by omega) rfl rfl (Nat.le_of_ble_eq_true rfl) (l_ret1 ?_)
  refine l_iload hc dL_law_443 rfl ?_
  refine l_icmp_same (tgt := 450) hc dL_law_445 (by decide) ?_
  refine l_iload hc dL_law_450 rfl ?_
  refine l_if_ne (b := 0) (tgt := 467) hc dL_law_452 (by decide) (by unfold tHarv; split <;> exact ⟨by omega, by omega⟩) (fun zc => ?_) (fun zc => ?_)
  · refine l_goto (tgt := 2052) hc dL_law_467 (by decide) ?_
    exact hk _ _ S _ zg _ _ _ (by omega) (by omega) ⟨zB2, zM2, zO2⟩
  · refine l_aload_n hc dL_law_455 rfl ?_
    refine l_iconst hc dL_law_456 ?_
    refine l_lald hc dL_law_457 zO2 (by omega) (by omega) ?_
    rw [zgv zc]
    refine l_iload hc dL_law_458 rfl ?_
    refine l_norm ?_
    refine l_i2l hc dL_law_460 (nrI_in _) ?_
    refine l_lcmp_same hc dL_law_461 ?_
    refine l_if_eq (b := 0) (tgt := 467) hc dL_law_462 (by decide) ⟨by omega, by omega⟩ (fun _ => ?_) (fun zc2 => absurd rfl zc2)
    refine l_goto (tgt := 2052) hc dL_law_467 (by decide) ?_
    exact hk _ _ S _ zg _ _ _ (by omega) (by omega) ⟨zB2, zM2, zO2⟩
set_option maxRecDepth 100000 in
set_option maxHeartbeats 4000000 in
theorem law_c7 {w : MC} {k : WC} {d n : Nat} {xs : Nat → Int32} {n1 n2 : Nat} {i : Int} {S : BaS} {th : Int} {f : Int → Int} {h : AH} {z5 z6 : Option AV} (hd : 310 ≤ d) (hntr : k.1.stackTraces = false) (hc : Cx w k d 601024 7293034 mdL_law) (hsc : Sc w n xs) (hi0 : 0 ≤ i) (hi1 : i + 9 ≤ n) (hn1 : n1 + 20 ≤ 601024) (hn2 : n2 + 10000 ≤ 7293034) (hst : LwS h S th f) (hk : ∀ (m1 m2 : Nat) (S1 : BaS) (th1 : Int) (f1 : Int → Int) (h1 : AH) (y5 y6 : Option AV), m1 ≤ n1 + 20 → m2 ≤ n2 + 10000 → LwS h1 S1 th1 f1 → JL w m1 m2 2052 [none, some (vR (0, 0)), some (vR (70, 0)), some (vR (99, 0)), some (vI i), y5, y6] [] h1) : JL w n1 n2 470 [none, some (vR (0, 0)), some (vR (70, 0)), some (vR (99, 0)), some (vI i), z5, z6] [] h := by
  obtain ⟨hB, hM, hO⟩ := id hst
  refine l_aload_n hc dL_law_470 rfl ?_
  refine l_arg hc hsc dL_law_471 dL_law_472 dL_law_474 dL_law_475 dL_law_476 rfl (by omega) (by omega) ?_
  refine l_arg hc hsc dL_law_477 dL_law_478 dL_law_480 dL_law_481 dL_law_482 rfl (by omega) (by omega) ?_
  refine l_arg hc hsc dL_law_483 dL_law_484 dL_law_486 dL_law_487 dL_law_488 rfl (by omega) (by omega) ?_
  refine l_callV (d' := d - 1) hc dL_law_489 vL_65 hB.1.1.1 (ev_X10_eaten_a (by omega) hB (scx_in _ _) (scx_in _ _) (scx_in _ _)) rfl (by omega) (by omega) (by omega) rfl rfl (Nat.le_of_ble_eq_true rfl) (l_ret1 ?_)
  refine l_aload_n hc dL_law_492 rfl ?_
  refine l_arg hc hsc dL_law_493 dL_law_494 dL_law_496 dL_law_497 dL_law_498 rfl (by omega) (by omega) ?_
  refine l_arg hc hsc dL_law_499 dL_law_500 dL_law_502 dL_law_503 dL_law_504 rfl (by omega) (by omega) ?_
  refine l_arg hc hsc dL_law_505 dL_law_506 dL_law_508 dL_law_509 dL_law_510 rfl (by omega) (by omega) ?_
  refine l_callV (d' := d - 1) hc dL_law_511 vL_68 hM.choose_spec.choose_spec.1.1 (ev_X11_eaten_a (by omega) hM (scx_in _ _) (scx_in _ _) (scx_in _ _)) rfl (by omega) (by omega) (by omega) rfl rfl (Nat.le_of_ble_eq_true rfl) (l_ret1 ?_)
  refine l_icmp_same (tgt := 2052) hc dL_law_514 (by decide) ?_
  exact hk _ _ _ _ _ _ _ _ (by omega) (by omega) ⟨hB, hM, hO⟩
set_option maxRecDepth 100000 in
set_option maxHeartbeats 4000000 in
theorem law_c8 {w : MC} {k : WC} {d n : Nat} {xs : Nat → Int32} {n1 n2 : Nat} {i : Int} {S : BaS} {th : Int} {f : Int → Int} {h : AH} {z5 z6 : Option AV} (hd : 310 ≤ d) (hntr : k.1.stackTraces = false) (hc : Cx w k d 601024 7293034 mdL_law) (hsc : Sc w n xs) (hi0 : 0 ≤ i) (hi1 : i + 9 ≤ n) (hn1 : n1 + 20 ≤ 601024) (hn2 : n2 + 10000 ≤ 7293034) (hst : LwS h S th f) (hk : ∀ (m1 m2 : Nat) (S1 : BaS) (th1 : Int) (f1 : Int → Int) (h1 : AH) (y5 y6 : Option AV), m1 ≤ n1 + 20 → m2 ≤ n2 + 10000 → LwS h1 S1 th1 f1 → JL w m1 m2 2052 [none, some (vR (0, 0)), some (vR (70, 0)), some (vR (99, 0)), some (vI i), y5, y6] [] h1) : JL w n1 n2 519 [none, some (vR (0, 0)), some (vR (70, 0)), some (vR (99, 0)), some (vI i), z5, z6] [] h := by
  obtain ⟨hB, hM, hO⟩ := id hst
  refine l_aload_n hc dL_law_519 rfl ?_
  refine l_arg hc hsc dL_law_520 dL_law_521 dL_law_523 dL_law_524 dL_law_525 rfl (by omega) (by omega) ?_
  refine l_arg hc hsc dL_law_526 dL_law_527 dL_law_529 dL_law_530 dL_law_531 rfl (by omega) (by omega) ?_
  refine l_callV (d' := d - 1) hc dL_law_532 vL_69 hB.1.1.1 (ev_X10_left_a (by omega) hB (scx_in _ _) (scx_in _ _)) rfl (by omega) (by omega) (by omega) rfl rfl (Nat.le_of_ble_eq_true rfl) (l_ret1 ?_)
  refine l_aload_n hc dL_law_535 rfl ?_
  refine l_arg hc hsc dL_law_536 dL_law_537 dL_law_539 dL_law_540 dL_law_541 rfl (by omega) (by omega) ?_
  refine l_arg hc hsc dL_law_542 dL_law_543 dL_law_545 dL_law_546 dL_law_547 rfl (by omega) (by omega) ?_
  refine l_callV (d' := d - 1) hc dL_law_548 vL_72 hM.choose_spec.choose_spec.1.1 (ev_X11_left_a (by omega) hM (scx_in _ _) (scx_in _ _)) rfl (by omega) (by omega) (by omega) rfl rfl (Nat.le_of_ble_eq_true rfl) (l_ret1 ?_)
  refine l_icmp_same (tgt := 2052) hc dL_law_551 (by decide) ?_
  exact hk _ _ _ _ _ _ _ _ (by omega) (by omega) ⟨hB, hM, hO⟩
set_option maxRecDepth 100000 in
set_option maxHeartbeats 4000000 in
theorem law_c9 {w : MC} {k : WC} {d n : Nat} {xs : Nat → Int32} {n1 n2 : Nat} {i : Int} {S : BaS} {th : Int} {f : Int → Int} {h : AH} {z5 z6 : Option AV} (hd : 310 ≤ d) (hntr : k.1.stackTraces = false) (hc : Cx w k d 601024 7293034 mdL_law) (hsc : Sc w n xs) (hi0 : 0 ≤ i) (hi1 : i + 9 ≤ n) (hn1 : n1 + 20 ≤ 601024) (hn2 : n2 + 10000 ≤ 7293034) (hst : LwS h S th f) (hk : ∀ (m1 m2 : Nat) (S1 : BaS) (th1 : Int) (f1 : Int → Int) (h1 : AH) (y5 y6 : Option AV), m1 ≤ n1 + 20 → m2 ≤ n2 + 10000 → LwS h1 S1 th1 f1 → JL w m1 m2 2052 [none, some (vR (0, 0)), some (vR (70, 0)), some (vR (99, 0)), some (vI i), y5, y6] [] h1) : JL w n1 n2 556 [none, some (vR (0, 0)), some (vR (70, 0)), some (vR (99, 0)), some (vI i), z5, z6] [] h := by
  obtain ⟨hB, hM, hO⟩ := id hst
  refine l_aload_n hc dL_law_556 rfl ?_
  refine l_arg hc hsc dL_law_557 dL_law_558 dL_law_560 dL_law_561 dL_law_562 rfl (by omega) (by omega) ?_
  refine l_arg hc hsc dL_law_563 dL_law_564 dL_law_566 dL_law_567 dL_law_568 rfl (by omega) (by omega) ?_
  refine l_callV (d' := d - 1) hc dL_law_569 vL_73 hB.1.1.1 (ev_X10_law_a (by omega) hB (scx_in _ _) (scx_in _ _)) rfl (by omega) (by omega) (by omega) rfl rfl (Nat.le_of_ble_eq_true rfl) (l_retE fun zv1 zq1 zp1 => ?_)
  obtain ⟨zv, zB1, zF1⟩ := zp1
  subst zv
  obtain ⟨zM1, zO1⟩ := hst.ba zF1
  refine l_aload_n hc dL_law_572 rfl ?_
  refine l_arg hc hsc dL_law_573 dL_law_574 dL_law_576 dL_law_577 dL_law_578 rfl (by omega) (by omega) ?_
  refine l_arg hc hsc dL_law_579 dL_law_580 dL_law_582 dL_law_583 dL_law_584 rfl (by omega) (by omega) ?_
  refine l_callV (d' := d - 1) hc dL_law_585 vL_77 zM1.choose_spec.choose_spec.1.1 (ev_X11_law_a (by omega) zM1 (scx_in _ _) (scx_in _ _) zB1.2.2.2.2.2) rfl (by omega) (by omega) (by omega) rfl rfl (Nat.le_of_ble_eq_true rfl) (l_retE fun zv2 zq2 zp2 => ?_)
  obtain ⟨zv, zM2, zF2⟩ := zp2
  subst zv
  refine l_icmp_same (tgt := 2052) hc dL_law_588 (by decide) ?_
  exact hk _ _ _ _ _ _ _ _ (by omega) (by omega) ⟨zB1.mo zF2, zM2, mo_99 zF2 zO1⟩
set_option maxRecDepth 100000 in
set_option maxHeartbeats 4000000 in
theorem law_c10 {w : MC} {k : WC} {d n : Nat} {xs : Nat → Int32} {n1 n2 : Nat} {i : Int} {S : BaS} {th : Int} {f : Int → Int} {h : AH} {z5 z6 : Option AV} (hd : 310 ≤ d) (hntr : k.1.stackTraces = false) (hc : Cx w k d 601024 7293034 mdL_law) (hsc : Sc w n xs) (hi0 : 0 ≤ i) (hi1 : i + 9 ≤ n) (hn1 : n1 + 20 ≤ 601024) (hn2 : n2 + 10000 ≤ 7293034) (hst : LwS h S th f) (hk : ∀ (m1 m2 : Nat) (S1 : BaS) (th1 : Int) (f1 : Int → Int) (h1 : AH) (y5 y6 : Option AV), m1 ≤ n1 + 20 → m2 ≤ n2 + 10000 → LwS h1 S1 th1 f1 → JL w m1 m2 2052 [none, some (vR (0, 0)), some (vR (70, 0)), some (vR (99, 0)), some (vI i), y5, y6] [] h1) : JL w n1 n2 593 [none, some (vR (0, 0)), some (vR (70, 0)), some (vR (99, 0)), some (vI i), z5, z6] [] h := by
  obtain ⟨hB, hM, hO⟩ := id hst
  refine l_aload_n hc dL_law_593 rfl ?_
  refine l_arg hc hsc dL_law_594 dL_law_595 dL_law_597 dL_law_598 dL_law_599 rfl (by omega) (by omega) ?_
  refine l_arg hc hsc dL_law_600 dL_law_601 dL_law_603 dL_law_604 dL_law_605 rfl (by omega) (by omega) ?_
  refine l_callV (d' := d - 1) hc dL_law_606 vL_78 hB.1.1.1 (ev_X10_by_a (by omega) hB (scx_in _ _) (scx_in _ _)) rfl (by omega) (by omega) (by omega) rfl rfl (Nat.le_of_ble_eq_true rfl) (l_retE fun zv1 zq1 zp1 => ?_)
  obtain ⟨zv, zB1, zF1⟩ := zp1
  subst zv
  obtain ⟨zM1, zO1⟩ := hst.ba zF1
  refine l_aload_n hc dL_law_609 rfl ?_
  refine l_arg hc hsc dL_law_610 dL_law_611 dL_law_613 dL_law_614 dL_law_615 rfl (by omega) (by omega) ?_
  refine l_arg hc hsc dL_law_616 dL_law_617 dL_law_619 dL_law_620 dL_law_621 rfl (by omega) (by omega) ?_
  refine l_callV (d' := d - 1) hc dL_law_622 vL_81 zM1.choose_spec.choose_spec.1.1 (ev_X11_by_a (by omega) zM1 (scx_in _ _) (scx_in _ _) zB1.2.2.2.2.2) rfl (by omega) (by omega) (by omega) rfl rfl (Nat.le_of_ble_eq_true rfl) (l_retE fun zv2 zq2 zp2 => ?_)
  obtain ⟨zv, zM2, zF2⟩ := zp2
  subst zv
  refine l_icmp_same (tgt := 2052) hc dL_law_625 (by decide) ?_
  exact hk _ _ _ _ _ _ _ _ (by omega) (by omega) ⟨zB1.mo zF2, zM2, mo_99 zF2 zO1⟩
set_option maxRecDepth 100000 in
set_option maxHeartbeats 4000000 in
theorem law_c11 {w : MC} {k : WC} {d n : Nat} {xs : Nat → Int32} {n1 n2 : Nat} {i : Int} {S : BaS} {th : Int} {f : Int → Int} {h : AH} {z5 z6 : Option AV} (hd : 310 ≤ d) (hntr : k.1.stackTraces = false) (hc : Cx w k d 601024 7293034 mdL_law) (hsc : Sc w n xs) (hi0 : 0 ≤ i) (hi1 : i + 9 ≤ n) (hn1 : n1 + 20 ≤ 601024) (hn2 : n2 + 10000 ≤ 7293034) (hst : LwS h S th f) (hk : ∀ (m1 m2 : Nat) (S1 : BaS) (th1 : Int) (f1 : Int → Int) (h1 : AH) (y5 y6 : Option AV), m1 ≤ n1 + 20 → m2 ≤ n2 + 10000 → LwS h1 S1 th1 f1 → JL w m1 m2 2052 [none, some (vR (0, 0)), some (vR (70, 0)), some (vR (99, 0)), some (vI i), y5, y6] [] h1) : JL w n1 n2 630 [none, some (vR (0, 0)), some (vR (70, 0)), some (vR (99, 0)), some (vI i), z5, z6] [] h := by
  obtain ⟨hB, hM, hO⟩ := id hst
  refine l_aload_n hc dL_law_630 rfl ?_
  refine l_arg hc hsc dL_law_631 dL_law_632 dL_law_634 dL_law_635 dL_law_636 rfl (by omega) (by omega) ?_
  refine l_arg hc hsc dL_law_637 dL_law_638 dL_law_640 dL_law_641 dL_law_642 rfl (by omega) (by omega) ?_
  refine l_arg hc hsc dL_law_643 dL_law_644 dL_law_646 dL_law_647 dL_law_648 rfl (by omega) (by omega) ?_
  refine l_arg hc hsc dL_law_649 dL_law_650 dL_law_652 dL_law_653 dL_law_654 rfl (by omega) (by omega) ?_
  refine l_arg hc hsc dL_law_655 dL_law_656 dL_law_658 dL_law_659 dL_law_660 rfl (by omega) (by omega) ?_
  refine l_argB hc hsc dL_law_661 dL_law_662 dL_law_664 (by decide) dL_law_666 dL_law_667 rfl (by omega) (by omega) ?_
  refine l_aload_n hc dL_law_668 rfl ?_
  refine l_callSW (d' := d - 1) hc hsc dL_law_669 sL_82 (ev_L_worth (by omega) hntr hB hO (scx_in _ _) (scx_in _ _) (scx_in _ _) (scx_in _ _) (scx_in _ _) (scx_in _ _)) rfl (by omega) (by omega) (by omega) rfl rfl (Nat.le_of_ble_eq_true rfl) (l_retE fun zv1 zq1 zp1 => ?_)
  obtain ⟨zv, ⟨zg, zO1, zgv⟩, zB1, zF1⟩ := zp1
  subst zv
  have zM1 := hst.bl zF1
  refine l_istore (L' := [_, _, _, _, _, _, _]) hc dL_law_672 (Nat.le_of_ble_eq_true rfl) (by decide) rfl ?_
  refine l_aload_n hc dL_law_674 rfl ?_
  refine l_arg hc hsc dL_law_675 dL_law_676 dL_law_678 dL_law_679 dL_law_680 rfl (by omega) (by omega) ?_
  refine l_arg hc hsc dL_law_681 dL_law_682 dL_law_684 dL_law_685 dL_law_686 rfl (by omega) (by omega) ?_
  refine l_arg hc hsc dL_law_687 dL_law_688 dL_law_690 dL_law_691 dL_law_692 rfl (by omega) (by omega) ?_
  refine l_arg hc hsc dL_law_693 dL_law_694 dL_law_696 dL_law_697 dL_law_698 rfl (by omega) (by omega) ?_
  refine l_arg hc hsc dL_law_699 dL_law_700 dL_law_702 dL_law_703 dL_law_704 rfl (by omega) (by omega) ?_
  refine l_argB hc hsc dL_law_705 dL_law_706 dL_law_708 (by decide) dL_law_710 dL_law_711 rfl (by omega) (by omega) ?_
  refine l_callV (d' := d - 1) hc dL_law_712 vL_85 zM1.choose_spec.choose_spec.1.1 (ev_X11_worth_a (by omega) zM1 (scx_in _ _) (scx_in _ _) (scx_in _ _) (scx_in _ _) (scx_in _ _) (scx_in _ _)) rfl (by omega) (by omega) (by omega) rfl rfl (Nat.le_of_ble_eq_true rfl) (l_retE fun zv2 zq2 zp2 => ?_)
  obtain ⟨zv, zM2, zF2⟩ := zp2
  subst zv
  have zB2 := zB1.mo zF2
  have zO2 := mo_99 zF2 zO1
  refine l_istore (L' := [_, _, _, _, _, _, _]) hc dL_law_715 (Nat.le_of_ble_eq_true rfl) (by decide) rfl ?_
  refine l_aload_n hc dL_law_717 rfl ?_
  refine l_callV (d' := d - 1) hc dL_law_718 vL_62 zM2.choose_spec.choose_spec.1.1 (ev_X11_thrown (by omega) zM2) rfl (by omega) (by omega) (by omega) rfl rfl (Nat.le_of_ble_eq_true rfl) (l_ret1 ?_)
  refine l_iload hc dL_law_721 rfl ?_
  refine l_icmp_same (tgt := 728) hc dL_law_723 (by decide) ?_
  refine l_iload hc dL_law_728 rfl ?_
  refine l_if_ne (b := 0) (tgt := 745) hc dL_law_730 (by decide) (by unfold tWorth; split <;> exact ⟨by omega, by omega⟩) (fun zc => ?_) (fun zc => ?_)
  · refine l_goto (tgt := 2052) hc dL_law_745 (by decide) ?_
    exact hk _ _ S _ zg _ _ _ (by omega) (by omega) ⟨zB2, zM2, zO2⟩
  · refine l_aload_n hc dL_law_733 rfl ?_
    refine l_iconst hc dL_law_734 ?_
    refine l_lald hc dL_law_735 zO2 (by omega) (by omega) ?_
    rw [zgv zc]
    refine l_iload hc dL_law_736 rfl ?_
    refine l_norm ?_
    refine l_i2l hc dL_law_738 (nrI_in _) ?_
    refine l_lcmp_same hc dL_law_739 ?_
    refine l_if_eq (b := 0) (tgt := 745) hc dL_law_740 (by decide) ⟨by omega, by omega⟩ (fun _ => ?_) (fun zc2 => absurd rfl zc2)
    refine l_goto (tgt := 2052) hc dL_law_745 (by decide) ?_
    exact hk _ _ S _ zg _ _ _ (by omega) (by omega) ⟨zB2, zM2, zO2⟩
set_option maxRecDepth 100000 in
set_option maxHeartbeats 4000000 in
theorem law_c12 {w : MC} {k : WC} {d n : Nat} {xs : Nat → Int32} {n1 n2 : Nat} {i : Int} {S : BaS} {th : Int} {f : Int → Int} {h : AH} {z5 z6 : Option AV} (hd : 310 ≤ d) (hntr : k.1.stackTraces = false) (hc : Cx w k d 601024 7293034 mdL_law) (hsc : Sc w n xs) (hi0 : 0 ≤ i) (hi1 : i + 9 ≤ n) (hn1 : n1 + 20 ≤ 601024) (hn2 : n2 + 10000 ≤ 7293034) (hst : LwS h S th f) (hk : ∀ (m1 m2 : Nat) (S1 : BaS) (th1 : Int) (f1 : Int → Int) (h1 : AH) (y5 y6 : Option AV), m1 ≤ n1 + 20 → m2 ≤ n2 + 10000 → LwS h1 S1 th1 f1 → JL w m1 m2 2052 [none, some (vR (0, 0)), some (vR (70, 0)), some (vR (99, 0)), some (vI i), y5, y6] [] h1) : JL w n1 n2 748 [none, some (vR (0, 0)), some (vR (70, 0)), some (vR (99, 0)), some (vI i), z5, z6] [] h := by
  obtain ⟨hB, hM, hO⟩ := id hst
  refine l_aload_n hc dL_law_748 rfl ?_
  refine l_arg hc hsc dL_law_749 dL_law_750 dL_law_752 dL_law_753 dL_law_754 rfl (by omega) (by omega) ?_
  refine l_arg hc hsc dL_law_755 dL_law_756 dL_law_758 dL_law_759 dL_law_760 rfl (by omega) (by omega) ?_
  refine l_arg hc hsc dL_law_761 dL_law_762 dL_law_764 dL_law_765 dL_law_766 rfl (by omega) (by omega) ?_
  refine l_arg hc hsc dL_law_767 dL_law_768 dL_law_770 dL_law_771 dL_law_772 rfl (by omega) (by omega) ?_
  refine l_arg hc hsc dL_law_773 dL_law_774 dL_law_776 dL_law_777 dL_law_778 rfl (by omega) (by omega) ?_
  refine l_callV (d' := d - 1) hc dL_law_779 vL_86 hB.1.1.1 (ev_X10_keep_a (by omega) hB (scx_in _ _) (scx_in _ _) (scx_in _ _) (scx_in _ _) (scx_in _ _)) rfl (by omega) (by omega) (by omega) rfl rfl (Nat.le_of_ble_eq_true rfl) (l_retE fun zv1 zq1 zp1 => ?_)
  obtain ⟨zv, zB1, zF1⟩ := zp1
  subst zv
  obtain ⟨zM1, zO1⟩ := hst.ba zF1
  refine l_aload_n hc dL_law_782 rfl ?_
  refine l_arg hc hsc dL_law_783 dL_law_784 dL_law_786 dL_law_787 dL_law_788 rfl (by omega) (by omega) ?_
  refine l_arg hc hsc dL_law_789 dL_law_790 dL_law_792 dL_law_793 dL_law_794 rfl (by omega) (by omega) ?_
  refine l_arg hc hsc dL_law_795 dL_law_796 dL_law_798 dL_law_799 dL_law_800 rfl (by omega) (by omega) ?_
  refine l_arg hc hsc dL_law_801 dL_law_802 dL_law_804 dL_law_805 dL_law_806 rfl (by omega) (by omega) ?_
  refine l_arg hc hsc dL_law_807 dL_law_808 dL_law_810 dL_law_811 dL_law_812 rfl (by omega) (by omega) ?_
  refine l_callV (d' := d - 1) hc dL_law_813 vL_89 zM1.choose_spec.choose_spec.1.1 (ev_X11_keep_a (by omega) zM1 (scx_in _ _) (scx_in _ _) (scx_in _ _) (scx_in _ _) (scx_in _ _)) rfl (by omega) (by omega) (by omega) rfl rfl (Nat.le_of_ble_eq_true rfl) (l_retE fun zv2 zq2 zp2 => ?_)
  obtain ⟨zv, zM2, zF2⟩ := zp2
  subst zv
  refine l_icmp_same (tgt := 2052) hc dL_law_816 (by decide) ?_
  exact hk _ _ _ _ _ _ _ _ (by omega) (by omega) ⟨zB1.mo zF2, zM2, mo_99 zF2 zO1⟩
set_option maxRecDepth 100000 in
set_option maxHeartbeats 4000000 in
theorem law_c13 {w : MC} {k : WC} {d n : Nat} {xs : Nat → Int32} {n1 n2 : Nat} {i : Int} {S : BaS} {th : Int} {f : Int → Int} {h : AH} {z5 z6 : Option AV} (hd : 310 ≤ d) (hntr : k.1.stackTraces = false) (hc : Cx w k d 601024 7293034 mdL_law) (hsc : Sc w n xs) (hi0 : 0 ≤ i) (hi1 : i + 9 ≤ n) (hn1 : n1 + 20 ≤ 601024) (hn2 : n2 + 10000 ≤ 7293034) (hst : LwS h S th f) (hk : ∀ (m1 m2 : Nat) (S1 : BaS) (th1 : Int) (f1 : Int → Int) (h1 : AH) (y5 y6 : Option AV), m1 ≤ n1 + 20 → m2 ≤ n2 + 10000 → LwS h1 S1 th1 f1 → JL w m1 m2 2052 [none, some (vR (0, 0)), some (vR (70, 0)), some (vR (99, 0)), some (vI i), y5, y6] [] h1) : JL w n1 n2 821 [none, some (vR (0, 0)), some (vR (70, 0)), some (vR (99, 0)), some (vI i), z5, z6] [] h := by
  obtain ⟨hB, hM, hO⟩ := id hst
  refine l_aload_n hc dL_law_821 rfl ?_
  refine l_arg hc hsc dL_law_822 dL_law_823 dL_law_825 dL_law_826 dL_law_827 rfl (by omega) (by omega) ?_
  refine l_arg hc hsc dL_law_828 dL_law_829 dL_law_831 dL_law_832 dL_law_833 rfl (by omega) (by omega) ?_
  refine l_arg hc hsc dL_law_834 dL_law_835 dL_law_837 dL_law_838 dL_law_839 rfl (by omega) (by omega) ?_
  refine l_arg hc hsc dL_law_840 dL_law_841 dL_law_843 dL_law_844 dL_law_845 rfl (by omega) (by omega) ?_
  refine l_arg hc hsc dL_law_846 dL_law_847 dL_law_849 dL_law_850 dL_law_851 rfl (by omega) (by omega) ?_
  refine l_callV (d' := d - 1) hc dL_law_852 vL_90 hB.1.1.1 (ev_X10_sold_a (by omega) hB (scx_in _ _) (scx_in _ _) (scx_in _ _) (scx_in _ _) (scx_in _ _)) rfl (by omega) (by omega) (by omega) rfl rfl (Nat.le_of_ble_eq_true rfl) (l_retE fun zv1 zq1 zp1 => ?_)
  obtain ⟨zv, zB1, zF1⟩ := zp1
  subst zv
  obtain ⟨zM1, zO1⟩ := hst.ba zF1
  refine l_aload_n hc dL_law_855 rfl ?_
  refine l_arg hc hsc dL_law_856 dL_law_857 dL_law_859 dL_law_860 dL_law_861 rfl (by omega) (by omega) ?_
  refine l_arg hc hsc dL_law_862 dL_law_863 dL_law_865 dL_law_866 dL_law_867 rfl (by omega) (by omega) ?_
  refine l_arg hc hsc dL_law_868 dL_law_869 dL_law_871 dL_law_872 dL_law_873 rfl (by omega) (by omega) ?_
  refine l_arg hc hsc dL_law_874 dL_law_875 dL_law_877 dL_law_878 dL_law_879 rfl (by omega) (by omega) ?_
  refine l_arg hc hsc dL_law_880 dL_law_881 dL_law_883 dL_law_884 dL_law_885 rfl (by omega) (by omega) ?_
  refine l_callV (d' := d - 1) hc dL_law_886 vL_93 zM1.choose_spec.choose_spec.1.1 (ev_X11_sold_a (by omega) zM1 (scx_in _ _) (scx_in _ _) (scx_in _ _) (scx_in _ _) (scx_in _ _)) rfl (by omega) (by omega) (by omega) rfl rfl (Nat.le_of_ble_eq_true rfl) (l_retE fun zv2 zq2 zp2 => ?_)
  obtain ⟨zv, zM2, zF2⟩ := zp2
  subst zv
  refine l_icmp_same (tgt := 2052) hc dL_law_889 (by decide) ?_
  exact hk _ _ _ _ _ _ _ _ (by omega) (by omega) ⟨zB1.mo zF2, zM2, mo_99 zF2 zO1⟩
set_option maxRecDepth 100000 in
set_option maxHeartbeats 4000000 in
theorem law_c14 {w : MC} {k : WC} {d n : Nat} {xs : Nat → Int32} {n1 n2 : Nat} {i : Int} {S : BaS} {th : Int} {f : Int → Int} {h : AH} {z5 z6 : Option AV} (hd : 310 ≤ d) (hntr : k.1.stackTraces = false) (hc : Cx w k d 601024 7293034 mdL_law) (hsc : Sc w n xs) (hi0 : 0 ≤ i) (hi1 : i + 9 ≤ n) (hn1 : n1 + 20 ≤ 601024) (hn2 : n2 + 10000 ≤ 7293034) (hst : LwS h S th f) (hk : ∀ (m1 m2 : Nat) (S1 : BaS) (th1 : Int) (f1 : Int → Int) (h1 : AH) (y5 y6 : Option AV), m1 ≤ n1 + 20 → m2 ≤ n2 + 10000 → LwS h1 S1 th1 f1 → JL w m1 m2 2052 [none, some (vR (0, 0)), some (vR (70, 0)), some (vR (99, 0)), some (vI i), y5, y6] [] h1) : JL w n1 n2 894 [none, some (vR (0, 0)), some (vR (70, 0)), some (vR (99, 0)), some (vI i), z5, z6] [] h := by
  obtain ⟨hB, hM, hO⟩ := id hst
  refine l_aload_n hc dL_law_894 rfl ?_
  refine l_arg hc hsc dL_law_895 dL_law_896 dL_law_898 dL_law_899 dL_law_900 rfl (by omega) (by omega) ?_
  refine l_arg hc hsc dL_law_901 dL_law_902 dL_law_904 dL_law_905 dL_law_906 rfl (by omega) (by omega) ?_
  refine l_arg hc hsc dL_law_907 dL_law_908 dL_law_910 dL_law_911 dL_law_912 rfl (by omega) (by omega) ?_
  refine l_arg hc hsc dL_law_913 dL_law_914 dL_law_916 dL_law_917 dL_law_918 rfl (by omega) (by omega) ?_
  refine l_arg hc hsc dL_law_919 dL_law_920 dL_law_922 dL_law_923 dL_law_924 rfl (by omega) (by omega) ?_
  refine l_callV (d' := d - 1) hc dL_law_925 vL_94 hB.1.1.1 (ev_X10_price_a (by omega) hB (scx_in _ _) (scx_in _ _) (scx_in _ _) (scx_in _ _) (scx_in _ _)) rfl (by omega) (by omega) (by omega) rfl rfl (Nat.le_of_ble_eq_true rfl) (l_retE fun zv1 zq1 zp1 => ?_)
  obtain ⟨zv, zB1, zF1⟩ := zp1
  subst zv
  obtain ⟨zM1, zO1⟩ := hst.ba zF1
  refine l_aload_n hc dL_law_928 rfl ?_
  refine l_arg hc hsc dL_law_929 dL_law_930 dL_law_932 dL_law_933 dL_law_934 rfl (by omega) (by omega) ?_
  refine l_arg hc hsc dL_law_935 dL_law_936 dL_law_938 dL_law_939 dL_law_940 rfl (by omega) (by omega) ?_
  refine l_arg hc hsc dL_law_941 dL_law_942 dL_law_944 dL_law_945 dL_law_946 rfl (by omega) (by omega) ?_
  refine l_arg hc hsc dL_law_947 dL_law_948 dL_law_950 dL_law_951 dL_law_952 rfl (by omega) (by omega) ?_
  refine l_arg hc hsc dL_law_953 dL_law_954 dL_law_956 dL_law_957 dL_law_958 rfl (by omega) (by omega) ?_
  refine l_callV (d' := d - 1) hc dL_law_959 vL_97 zM1.choose_spec.choose_spec.1.1 (ev_X11_price_a (by omega) zM1 (scx_in _ _) (scx_in _ _) (scx_in _ _) (scx_in _ _) (scx_in _ _)) rfl (by omega) (by omega) (by omega) rfl rfl (Nat.le_of_ble_eq_true rfl) (l_retE fun zv2 zq2 zp2 => ?_)
  obtain ⟨zv, zM2, zF2⟩ := zp2
  subst zv
  refine l_icmp_same (tgt := 2052) hc dL_law_962 (by decide) ?_
  exact hk _ _ _ _ _ _ _ _ (by omega) (by omega) ⟨zB1.mo zF2, zM2, mo_99 zF2 zO1⟩
set_option maxRecDepth 100000 in
set_option maxHeartbeats 4000000 in
theorem law_c15 {w : MC} {k : WC} {d n : Nat} {xs : Nat → Int32} {n1 n2 : Nat} {i : Int} {S : BaS} {th : Int} {f : Int → Int} {h : AH} {z5 z6 : Option AV} (hd : 310 ≤ d) (hntr : k.1.stackTraces = false) (hc : Cx w k d 601024 7293034 mdL_law) (hsc : Sc w n xs) (hi0 : 0 ≤ i) (hi1 : i + 9 ≤ n) (hn1 : n1 + 20 ≤ 601024) (hn2 : n2 + 10000 ≤ 7293034) (hst : LwS h S th f) (hk : ∀ (m1 m2 : Nat) (S1 : BaS) (th1 : Int) (f1 : Int → Int) (h1 : AH) (y5 y6 : Option AV), m1 ≤ n1 + 20 → m2 ≤ n2 + 10000 → LwS h1 S1 th1 f1 → JL w m1 m2 2052 [none, some (vR (0, 0)), some (vR (70, 0)), some (vR (99, 0)), some (vI i), y5, y6] [] h1) : JL w n1 n2 967 [none, some (vR (0, 0)), some (vR (70, 0)), some (vR (99, 0)), some (vI i), z5, z6] [] h := by
  obtain ⟨hB, hM, hO⟩ := id hst
  refine l_aload_n hc dL_law_967 rfl ?_
  refine l_arg hc hsc dL_law_968 dL_law_969 dL_law_971 dL_law_972 dL_law_973 rfl (by omega) (by omega) ?_
  refine l_arg hc hsc dL_law_974 dL_law_975 dL_law_977 dL_law_978 dL_law_979 rfl (by omega) (by omega) ?_
  refine l_arg hc hsc dL_law_980 dL_law_981 dL_law_983 dL_law_984 dL_law_985 rfl (by omega) (by omega) ?_
  refine l_callV (d' := d - 1) hc dL_law_986 vL_98 hB.1.1.1 (ev_X10_below_a (by omega) hB (scx_in _ _) (scx_in _ _) (scx_in _ _)) rfl (by omega) (by omega) (by omega) rfl rfl (Nat.le_of_ble_eq_true rfl) (l_ret1 ?_)
  refine l_aload_n hc dL_law_989 rfl ?_
  refine l_arg hc hsc dL_law_990 dL_law_991 dL_law_993 dL_law_994 dL_law_995 rfl (by omega) (by omega) ?_
  refine l_arg hc hsc dL_law_996 dL_law_997 dL_law_999 dL_law_1000 dL_law_1001 rfl (by omega) (by omega) ?_
  refine l_arg hc hsc dL_law_1002 dL_law_1003 dL_law_1005 dL_law_1006 dL_law_1007 rfl (by omega) (by omega) ?_
  refine l_callV (d' := d - 1) hc dL_law_1008 vL_102 hM.choose_spec.choose_spec.1.1 (ev_X11_below_a (by omega) hM (scx_in _ _) (scx_in _ _) (scx_in _ _)) rfl (by omega) (by omega) (by omega) rfl rfl (Nat.le_of_ble_eq_true rfl) (l_retE fun zv2 zq2 zp2 => ?_)
  obtain ⟨zv, zM2, zF2⟩ := zp2
  subst zv
  refine l_lcmp_same hc dL_law_1011 ?_
  refine l_if_eq (b := 0) (tgt := 2052) hc dL_law_1012 (by decide) ⟨by omega, by omega⟩ (fun _ => ?_) (fun zc2 => absurd rfl zc2)
  exact hk _ _ _ _ _ _ _ _ (by omega) (by omega) ⟨hB.mo zF2, zM2, mo_99 zF2 hO⟩
set_option maxRecDepth 100000 in
set_option maxHeartbeats 4000000 in
theorem law_c16 {w : MC} {k : WC} {d n : Nat} {xs : Nat → Int32} {n1 n2 : Nat} {i : Int} {S : BaS} {th : Int} {f : Int → Int} {h : AH} {z5 z6 : Option AV} (hd : 310 ≤ d) (hntr : k.1.stackTraces = false) (hc : Cx w k d 601024 7293034 mdL_law) (hsc : Sc w n xs) (hi0 : 0 ≤ i) (hi1 : i + 9 ≤ n) (hn1 : n1 + 20 ≤ 601024) (hn2 : n2 + 10000 ≤ 7293034) (hst : LwS h S th f) (hk : ∀ (m1 m2 : Nat) (S1 : BaS) (th1 : Int) (f1 : Int → Int) (h1 : AH) (y5 y6 : Option AV), m1 ≤ n1 + 20 → m2 ≤ n2 + 10000 → LwS h1 S1 th1 f1 → JL w m1 m2 2052 [none, some (vR (0, 0)), some (vR (70, 0)), some (vR (99, 0)), some (vI i), y5, y6] [] h1) : JL w n1 n2 1017 [none, some (vR (0, 0)), some (vR (70, 0)), some (vR (99, 0)), some (vI i), z5, z6] [] h := by
  obtain ⟨hB, hM, hO⟩ := id hst
  refine l_aload_n hc dL_law_1017 rfl ?_
  refine l_arg hc hsc dL_law_1018 dL_law_1019 dL_law_1021 dL_law_1022 dL_law_1023 rfl (by omega) (by omega) ?_
  refine l_arg hc hsc dL_law_1024 dL_law_1025 dL_law_1027 dL_law_1028 dL_law_1029 rfl (by omega) (by omega) ?_
  refine l_arg hc hsc dL_law_1030 dL_law_1031 dL_law_1033 dL_law_1034 dL_law_1035 rfl (by omega) (by omega) ?_
  refine l_arg hc hsc dL_law_1036 dL_law_1037 dL_law_1039 dL_law_1040 dL_law_1041 rfl (by omega) (by omega) ?_
  refine l_arg hc hsc dL_law_1042 dL_law_1043 dL_law_1045 dL_law_1046 dL_law_1047 rfl (by omega) (by omega) ?_
  refine l_callV (d' := d - 1) hc dL_law_1048 vL_103 hB.1.1.1 (ev_X10_welfare_a (by omega) hB (scx_in _ _) (scx_in _ _) (scx_in _ _) (scx_in _ _) (scx_in _ _)) rfl (by omega) (by omega) (by omega) rfl rfl (Nat.le_of_ble_eq_true rfl) (l_retE fun zv1 zq1 zp1 => ?_)
  obtain ⟨zv, zB1, zF1⟩ := zp1
  subst zv
  obtain ⟨zM1, zO1⟩ := hst.ba zF1
  refine l_aload_n hc dL_law_1051 rfl ?_
  refine l_arg hc hsc dL_law_1052 dL_law_1053 dL_law_1055 dL_law_1056 dL_law_1057 rfl (by omega) (by omega) ?_
  refine l_arg hc hsc dL_law_1058 dL_law_1059 dL_law_1061 dL_law_1062 dL_law_1063 rfl (by omega) (by omega) ?_
  refine l_arg hc hsc dL_law_1064 dL_law_1065 dL_law_1067 dL_law_1068 dL_law_1069 rfl (by omega) (by omega) ?_
  refine l_arg hc hsc dL_law_1070 dL_law_1071 dL_law_1073 dL_law_1074 dL_law_1075 rfl (by omega) (by omega) ?_
  refine l_arg hc hsc dL_law_1076 dL_law_1077 dL_law_1079 dL_law_1080 dL_law_1081 rfl (by omega) (by omega) ?_
  refine l_callV (d' := d - 1) hc dL_law_1082 vL_107 zM1.choose_spec.choose_spec.1.1 (ev_X11_welfare_a (by omega) zM1 (scx_in _ _) (scx_in _ _) (scx_in _ _) (scx_in _ _) (scx_in _ _)) rfl (by omega) (by omega) (by omega) rfl rfl (Nat.le_of_ble_eq_true rfl) (l_retE fun zv2 zq2 zp2 => ?_)
  obtain ⟨zv, zM2, zF2⟩ := zp2
  subst zv
  refine l_lcmp_same hc dL_law_1085 ?_
  refine l_if_eq (b := 0) (tgt := 2052) hc dL_law_1086 (by decide) ⟨by omega, by omega⟩ (fun _ => ?_) (fun zc2 => absurd rfl zc2)
  exact hk _ _ _ _ _ _ _ _ (by omega) (by omega) ⟨zB1.mo zF2, zM2, mo_99 zF2 zO1⟩
set_option maxRecDepth 100000 in
set_option maxHeartbeats 4000000 in
theorem law_c17 {w : MC} {k : WC} {d n : Nat} {xs : Nat → Int32} {n1 n2 : Nat} {i : Int} {S : BaS} {th : Int} {f : Int → Int} {h : AH} {z5 z6 : Option AV} (hd : 310 ≤ d) (hntr : k.1.stackTraces = false) (hc : Cx w k d 601024 7293034 mdL_law) (hsc : Sc w n xs) (hi0 : 0 ≤ i) (hi1 : i + 9 ≤ n) (hn1 : n1 + 20 ≤ 601024) (hn2 : n2 + 10000 ≤ 7293034) (hst : LwS h S th f) (hk : ∀ (m1 m2 : Nat) (S1 : BaS) (th1 : Int) (f1 : Int → Int) (h1 : AH) (y5 y6 : Option AV), m1 ≤ n1 + 20 → m2 ≤ n2 + 10000 → LwS h1 S1 th1 f1 → JL w m1 m2 2052 [none, some (vR (0, 0)), some (vR (70, 0)), some (vR (99, 0)), some (vI i), y5, y6] [] h1) : JL w n1 n2 1091 [none, some (vR (0, 0)), some (vR (70, 0)), some (vR (99, 0)), some (vI i), z5, z6] [] h := by
  obtain ⟨hB, hM, hO⟩ := id hst
  refine l_aload_n hc dL_law_1091 rfl ?_
  refine l_arg hc hsc dL_law_1092 dL_law_1093 dL_law_1095 dL_law_1096 dL_law_1097 rfl (by omega) (by omega) ?_
  refine l_arg hc hsc dL_law_1098 dL_law_1099 dL_law_1101 dL_law_1102 dL_law_1103 rfl (by omega) (by omega) ?_
  refine l_arg hc hsc dL_law_1104 dL_law_1105 dL_law_1107 dL_law_1108 dL_law_1109 rfl (by omega) (by omega) ?_
  refine l_arg hc hsc dL_law_1110 dL_law_1111 dL_law_1113 dL_law_1114 dL_law_1115 rfl (by omega) (by omega) ?_
  refine l_callV (d' := d - 1) hc dL_law_1116 vL_108 hB.1.1.1 (ev_X10_takings_a (by omega) hB (scx_in _ _) (scx_in _ _) (scx_in _ _) (scx_in _ _)) rfl (by omega) (by omega) (by omega) rfl rfl (Nat.le_of_ble_eq_true rfl) (l_retE fun zv1 zq1 zp1 => ?_)
  obtain ⟨zv, zB1, zF1⟩ := zp1
  subst zv
  obtain ⟨zM1, zO1⟩ := hst.ba zF1
  refine l_aload_n hc dL_law_1119 rfl ?_
  refine l_arg hc hsc dL_law_1120 dL_law_1121 dL_law_1123 dL_law_1124 dL_law_1125 rfl (by omega) (by omega) ?_
  refine l_arg hc hsc dL_law_1126 dL_law_1127 dL_law_1129 dL_law_1130 dL_law_1131 rfl (by omega) (by omega) ?_
  refine l_arg hc hsc dL_law_1132 dL_law_1133 dL_law_1135 dL_law_1136 dL_law_1137 rfl (by omega) (by omega) ?_
  refine l_arg hc hsc dL_law_1138 dL_law_1139 dL_law_1141 dL_law_1142 dL_law_1143 rfl (by omega) (by omega) ?_
  refine l_callV (d' := d - 1) hc dL_law_1144 vL_112 zM1.choose_spec.choose_spec.1.1 (ev_X11_takings_a (by omega) zM1 (scx_in _ _) (scx_in _ _) (scx_in _ _) (scx_in _ _)) rfl (by omega) (by omega) (by omega) rfl rfl (Nat.le_of_ble_eq_true rfl) (l_retE fun zv2 zq2 zp2 => ?_)
  obtain ⟨zv, zM2, zF2⟩ := zp2
  subst zv
  refine l_lcmp_same hc dL_law_1147 ?_
  refine l_if_eq (b := 0) (tgt := 2052) hc dL_law_1148 (by decide) ⟨by omega, by omega⟩ (fun _ => ?_) (fun zc2 => absurd rfl zc2)
  exact hk _ _ _ _ _ _ _ _ (by omega) (by omega) ⟨zB1.mo zF2, zM2, mo_99 zF2 zO1⟩
set_option maxRecDepth 100000 in
set_option maxHeartbeats 4000000 in
theorem law_c18 {w : MC} {k : WC} {d n : Nat} {xs : Nat → Int32} {n1 n2 : Nat} {i : Int} {S : BaS} {th : Int} {f : Int → Int} {h : AH} {z5 z6 : Option AV} (hd : 310 ≤ d) (hntr : k.1.stackTraces = false) (hc : Cx w k d 601024 7293034 mdL_law) (hsc : Sc w n xs) (hi0 : 0 ≤ i) (hi1 : i + 9 ≤ n) (hn1 : n1 + 20 ≤ 601024) (hn2 : n2 + 10000 ≤ 7293034) (hst : LwS h S th f) (hk : ∀ (m1 m2 : Nat) (S1 : BaS) (th1 : Int) (f1 : Int → Int) (h1 : AH) (y5 y6 : Option AV), m1 ≤ n1 + 20 → m2 ≤ n2 + 10000 → LwS h1 S1 th1 f1 → JL w m1 m2 2052 [none, some (vR (0, 0)), some (vR (70, 0)), some (vR (99, 0)), some (vI i), y5, y6] [] h1) : JL w n1 n2 1153 [none, some (vR (0, 0)), some (vR (70, 0)), some (vR (99, 0)), some (vI i), z5, z6] [] h := by
  obtain ⟨hB, hM, hO⟩ := id hst
  refine l_aload_n hc dL_law_1153 rfl ?_
  refine l_arg hc hsc dL_law_1154 dL_law_1155 dL_law_1157 dL_law_1158 dL_law_1159 rfl (by omega) (by omega) ?_
  refine l_arg hc hsc dL_law_1160 dL_law_1161 dL_law_1163 dL_law_1164 dL_law_1165 rfl (by omega) (by omega) ?_
  refine l_arg hc hsc dL_law_1166 dL_law_1167 dL_law_1169 dL_law_1170 dL_law_1171 rfl (by omega) (by omega) ?_
  refine l_callV (d' := d - 1) hc dL_law_1172 vL_113 hB.1.1.1 (ev_X10_unlike_a (by omega) hB (scx_in _ _) (scx_in _ _) (scx_in _ _)) rfl (by omega) (by omega) (by omega) rfl rfl (Nat.le_of_ble_eq_true rfl) (l_retE fun zv1 zq1 zp1 => ?_)
  obtain ⟨zv, zB1, zF1⟩ := zp1
  subst zv
  obtain ⟨zM1, zO1⟩ := hst.ba zF1
  refine l_aload_n hc dL_law_1175 rfl ?_
  refine l_arg hc hsc dL_law_1176 dL_law_1177 dL_law_1179 dL_law_1180 dL_law_1181 rfl (by omega) (by omega) ?_
  refine l_arg hc hsc dL_law_1182 dL_law_1183 dL_law_1185 dL_law_1186 dL_law_1187 rfl (by omega) (by omega) ?_
  refine l_arg hc hsc dL_law_1188 dL_law_1189 dL_law_1191 dL_law_1192 dL_law_1193 rfl (by omega) (by omega) ?_
  refine l_callV (d' := d - 1) hc dL_law_1194 vL_116 zM1.choose_spec.choose_spec.1.1 (ev_X11_unlike_a (by omega) zM1 (scx_in _ _) (scx_in _ _) (scx_in _ _)) rfl (by omega) (by omega) (by omega) rfl rfl (Nat.le_of_ble_eq_true rfl) (l_retE fun zv2 zq2 zp2 => ?_)
  obtain ⟨zv, zM2, zF2⟩ := zp2
  subst zv
  refine l_icmp_same (tgt := 2052) hc dL_law_1197 (by decide) ?_
  exact hk _ _ _ _ _ _ _ _ (by omega) (by omega) ⟨zB1.mo zF2, zM2, mo_99 zF2 zO1⟩
set_option maxRecDepth 100000 in
set_option maxHeartbeats 4000000 in
theorem law_c19 {w : MC} {k : WC} {d n : Nat} {xs : Nat → Int32} {n1 n2 : Nat} {i : Int} {S : BaS} {th : Int} {f : Int → Int} {h : AH} {z5 z6 : Option AV} (hd : 310 ≤ d) (hntr : k.1.stackTraces = false) (hc : Cx w k d 601024 7293034 mdL_law) (hsc : Sc w n xs) (hi0 : 0 ≤ i) (hi1 : i + 9 ≤ n) (hn1 : n1 + 20 ≤ 601024) (hn2 : n2 + 10000 ≤ 7293034) (hst : LwS h S th f) (hk : ∀ (m1 m2 : Nat) (S1 : BaS) (th1 : Int) (f1 : Int → Int) (h1 : AH) (y5 y6 : Option AV), m1 ≤ n1 + 20 → m2 ≤ n2 + 10000 → LwS h1 S1 th1 f1 → JL w m1 m2 2052 [none, some (vR (0, 0)), some (vR (70, 0)), some (vR (99, 0)), some (vI i), y5, y6] [] h1) : JL w n1 n2 1202 [none, some (vR (0, 0)), some (vR (70, 0)), some (vR (99, 0)), some (vI i), z5, z6] [] h := by
  obtain ⟨hB, hM, hO⟩ := id hst
  refine l_aload_n hc dL_law_1202 rfl ?_
  refine l_arg hc hsc dL_law_1203 dL_law_1204 dL_law_1206 dL_law_1207 dL_law_1208 rfl (by omega) (by omega) ?_
  refine l_arg hc hsc dL_law_1209 dL_law_1210 dL_law_1212 dL_law_1213 dL_law_1214 rfl (by omega) (by omega) ?_
  refine l_callV (d' := d - 1) hc dL_law_1215 vL_117 hB.1.1.1 (ev_X10_ever_a (by omega) hB (scx_in _ _) (scx_in _ _)) rfl (by omega) (by omega) (by omega) rfl rfl (Nat.le_of_ble_eq_true rfl) (l_retE fun zv1 zq1 zp1 => ?_)
  obtain ⟨zv, zB1, zF1⟩ := zp1
  subst zv
  obtain ⟨zM1, zO1⟩ := hst.ba zF1
  refine l_aload_n hc dL_law_1218 rfl ?_
  refine l_arg hc hsc dL_law_1219 dL_law_1220 dL_law_1222 dL_law_1223 dL_law_1224 rfl (by omega) (by omega) ?_
  refine l_arg hc hsc dL_law_1225 dL_law_1226 dL_law_1228 dL_law_1229 dL_law_1230 rfl (by omega) (by omega) ?_
  refine l_callV (d' := d - 1) hc dL_law_1231 vL_120 zM1.choose_spec.choose_spec.1.1 (ev_X11_ever_a (by omega) zM1 (scx_in _ _) (scx_in _ _)) rfl (by omega) (by omega) (by omega) rfl rfl (Nat.le_of_ble_eq_true rfl) (l_retE fun zv2 zq2 zp2 => ?_)
  obtain ⟨zv, zM2, zF2⟩ := zp2
  subst zv
  refine l_icmp_same (tgt := 2052) hc dL_law_1234 (by decide) ?_
  exact hk _ _ _ _ _ _ _ _ (by omega) (by omega) ⟨zB1.mo zF2, zM2, mo_99 zF2 zO1⟩
set_option maxRecDepth 100000 in
set_option maxHeartbeats 4000000 in
theorem law_c20 {w : MC} {k : WC} {d n : Nat} {xs : Nat → Int32} {n1 n2 : Nat} {i : Int} {S : BaS} {th : Int} {f : Int → Int} {h : AH} {z5 z6 : Option AV} (hd : 310 ≤ d) (hntr : k.1.stackTraces = false) (hc : Cx w k d 601024 7293034 mdL_law) (hsc : Sc w n xs) (hi0 : 0 ≤ i) (hi1 : i + 9 ≤ n) (hn1 : n1 + 20 ≤ 601024) (hn2 : n2 + 10000 ≤ 7293034) (hst : LwS h S th f) (hk : ∀ (m1 m2 : Nat) (S1 : BaS) (th1 : Int) (f1 : Int → Int) (h1 : AH) (y5 y6 : Option AV), m1 ≤ n1 + 20 → m2 ≤ n2 + 10000 → LwS h1 S1 th1 f1 → JL w m1 m2 2052 [none, some (vR (0, 0)), some (vR (70, 0)), some (vR (99, 0)), some (vI i), y5, y6] [] h1) : JL w n1 n2 1239 [none, some (vR (0, 0)), some (vR (70, 0)), some (vR (99, 0)), some (vI i), z5, z6] [] h := by
  obtain ⟨hB, hM, hO⟩ := id hst
  refine l_aload_n hc dL_law_1239 rfl ?_
  refine l_arg hc hsc dL_law_1240 dL_law_1241 dL_law_1243 dL_law_1244 dL_law_1245 rfl (by omega) (by omega) ?_
  refine l_arg hc hsc dL_law_1246 dL_law_1247 dL_law_1249 dL_law_1250 dL_law_1251 rfl (by omega) (by omega) ?_
  refine l_arg hc hsc dL_law_1252 dL_law_1253 dL_law_1255 dL_law_1256 dL_law_1257 rfl (by omega) (by omega) ?_
  refine l_arg hc hsc dL_law_1258 dL_law_1259 dL_law_1261 dL_law_1262 dL_law_1263 rfl (by omega) (by omega) ?_
  refine l_callV (d' := d - 1) hc dL_law_1264 vL_121 hB.1.1.1 (ev_X10_edge_a (by omega) hB (scx_in _ _) (scx_in _ _) (scx_in _ _) (scx_in _ _)) rfl (by omega) (by omega) (by omega) rfl rfl (Nat.le_of_ble_eq_true rfl) (l_retE fun zv1 zq1 zp1 => ?_)
  obtain ⟨zv, zB1, zF1⟩ := zp1
  subst zv
  obtain ⟨zM1, zO1⟩ := hst.ba zF1
  refine l_aload_n hc dL_law_1267 rfl ?_
  refine l_arg hc hsc dL_law_1268 dL_law_1269 dL_law_1271 dL_law_1272 dL_law_1273 rfl (by omega) (by omega) ?_
  refine l_arg hc hsc dL_law_1274 dL_law_1275 dL_law_1277 dL_law_1278 dL_law_1279 rfl (by omega) (by omega) ?_
  refine l_arg hc hsc dL_law_1280 dL_law_1281 dL_law_1283 dL_law_1284 dL_law_1285 rfl (by omega) (by omega) ?_
  refine l_arg hc hsc dL_law_1286 dL_law_1287 dL_law_1289 dL_law_1290 dL_law_1291 rfl (by omega) (by omega) ?_
  refine l_callV (d' := d - 1) hc dL_law_1292 vL_124 zM1.choose_spec.choose_spec.1.1 (ev_X11_edge_a (by omega) zM1 (scx_in _ _) (scx_in _ _) (scx_in _ _) (scx_in _ _)) rfl (by omega) (by omega) (by omega) rfl rfl (Nat.le_of_ble_eq_true rfl) (l_retE fun zv2 zq2 zp2 => ?_)
  obtain ⟨zv, zM2, zF2⟩ := zp2
  subst zv
  refine l_icmp_same (tgt := 2052) hc dL_law_1295 (by decide) ?_
  exact hk _ _ _ _ _ _ _ _ (by omega) (by omega) ⟨zB1.mo zF2, zM2, mo_99 zF2 zO1⟩
set_option maxRecDepth 100000 in
set_option maxHeartbeats 4000000 in
theorem law_c21 {w : MC} {k : WC} {d n : Nat} {xs : Nat → Int32} {n1 n2 : Nat} {i : Int} {S : BaS} {th : Int} {f : Int → Int} {h : AH} {z5 z6 : Option AV} (hd : 310 ≤ d) (hntr : k.1.stackTraces = false) (hc : Cx w k d 601024 7293034 mdL_law) (hsc : Sc w n xs) (hi0 : 0 ≤ i) (hi1 : i + 9 ≤ n) (hn1 : n1 + 20 ≤ 601024) (hn2 : n2 + 10000 ≤ 7293034) (hst : LwS h S th f) (hk : ∀ (m1 m2 : Nat) (S1 : BaS) (th1 : Int) (f1 : Int → Int) (h1 : AH) (y5 y6 : Option AV), m1 ≤ n1 + 20 → m2 ≤ n2 + 10000 → LwS h1 S1 th1 f1 → JL w m1 m2 2052 [none, some (vR (0, 0)), some (vR (70, 0)), some (vR (99, 0)), some (vI i), y5, y6] [] h1) : JL w n1 n2 1300 [none, some (vR (0, 0)), some (vR (70, 0)), some (vR (99, 0)), some (vI i), z5, z6] [] h := by
  obtain ⟨hB, hM, hO⟩ := id hst
  refine l_aload_n hc dL_law_1300 rfl ?_
  refine l_arg hc hsc dL_law_1301 dL_law_1302 dL_law_1304 dL_law_1305 dL_law_1306 rfl (by omega) (by omega) ?_
  refine l_arg hc hsc dL_law_1307 dL_law_1308 dL_law_1310 dL_law_1311 dL_law_1312 rfl (by omega) (by omega) ?_
  refine l_arg hc hsc dL_law_1313 dL_law_1314 dL_law_1316 dL_law_1317 dL_law_1318 rfl (by omega) (by omega) ?_
  refine l_arg hc hsc dL_law_1319 dL_law_1320 dL_law_1322 dL_law_1323 dL_law_1324 rfl (by omega) (by omega) ?_
  refine l_callV (d' := d - 1) hc dL_law_1325 vL_125 hB.1.1.1 (ev_X10_tell_a (by omega) hB (scx_in _ _) (scx_in _ _) (scx_in _ _) (scx_in _ _)) rfl (by omega) (by omega) (by omega) rfl rfl (Nat.le_of_ble_eq_true rfl) (l_retE fun zv1 zq1 zp1 => ?_)
  obtain ⟨zv, zB1, zF1⟩ := zp1
  subst zv
  obtain ⟨zM1, zO1⟩ := hst.ba zF1
  refine l_aload_n hc dL_law_1328 rfl ?_
  refine l_arg hc hsc dL_law_1329 dL_law_1330 dL_law_1332 dL_law_1333 dL_law_1334 rfl (by omega) (by omega) ?_
  refine l_arg hc hsc dL_law_1335 dL_law_1336 dL_law_1338 dL_law_1339 dL_law_1340 rfl (by omega) (by omega) ?_
  refine l_arg hc hsc dL_law_1341 dL_law_1342 dL_law_1344 dL_law_1345 dL_law_1346 rfl (by omega) (by omega) ?_
  refine l_arg hc hsc dL_law_1347 dL_law_1348 dL_law_1350 dL_law_1351 dL_law_1352 rfl (by omega) (by omega) ?_
  refine l_callV (d' := d - 1) hc dL_law_1353 vL_129 zM1.choose_spec.choose_spec.1.1 (ev_X11_tell_a (by omega) zM1 (scx_in _ _) (scx_in _ _) (scx_in _ _) (scx_in _ _) zB1.2.2.2.2.2) rfl (by omega) (by omega) (by omega) rfl rfl (Nat.le_of_ble_eq_true rfl) (l_retE fun zv2 zq2 zp2 => ?_)
  obtain ⟨zv, zM2, zF2⟩ := zp2
  subst zv
  refine l_icmp_same (tgt := 2052) hc dL_law_1356 (by decide) ?_
  exact hk _ _ _ _ _ _ _ _ (by omega) (by omega) ⟨zB1.mo zF2, zM2, mo_99 zF2 zO1⟩
set_option maxRecDepth 100000 in
set_option maxHeartbeats 4000000 in
theorem law_c22 {w : MC} {k : WC} {d n : Nat} {xs : Nat → Int32} {n1 n2 : Nat} {i : Int} {S : BaS} {th : Int} {f : Int → Int} {h : AH} {z5 z6 : Option AV} (hd : 310 ≤ d) (hntr : k.1.stackTraces = false) (hc : Cx w k d 601024 7293034 mdL_law) (hsc : Sc w n xs) (hi0 : 0 ≤ i) (hi1 : i + 9 ≤ n) (hn1 : n1 + 20 ≤ 601024) (hn2 : n2 + 10000 ≤ 7293034) (hst : LwS h S th f) (hk : ∀ (m1 m2 : Nat) (S1 : BaS) (th1 : Int) (f1 : Int → Int) (h1 : AH) (y5 y6 : Option AV), m1 ≤ n1 + 20 → m2 ≤ n2 + 10000 → LwS h1 S1 th1 f1 → JL w m1 m2 2052 [none, some (vR (0, 0)), some (vR (70, 0)), some (vR (99, 0)), some (vI i), y5, y6] [] h1) : JL w n1 n2 1361 [none, some (vR (0, 0)), some (vR (70, 0)), some (vR (99, 0)), some (vI i), z5, z6] [] h := by
  obtain ⟨hB, hM, hO⟩ := id hst
  refine l_aload_n hc dL_law_1361 rfl ?_
  refine l_arg hc hsc dL_law_1362 dL_law_1363 dL_law_1365 dL_law_1366 dL_law_1367 rfl (by omega) (by omega) ?_
  refine l_arg hc hsc dL_law_1368 dL_law_1369 dL_law_1371 dL_law_1372 dL_law_1373 rfl (by omega) (by omega) ?_
  refine l_arg hc hsc dL_law_1374 dL_law_1375 dL_law_1377 dL_law_1378 dL_law_1379 rfl (by omega) (by omega) ?_
  refine l_callV (d' := d - 1) hc dL_law_1380 vL_130 hB.1.1.1 (ev_X10_judge_a (by omega) hB (scx_in _ _) (scx_in _ _) (scx_in _ _)) rfl (by omega) (by omega) (by omega) rfl rfl (Nat.le_of_ble_eq_true rfl) (l_retE fun zv1 zq1 zp1 => ?_)
  obtain ⟨zv, zB1, zF1⟩ := zp1
  subst zv
  obtain ⟨zM1, zO1⟩ := hst.ba zF1
  refine l_aload_n hc dL_law_1383 rfl ?_
  refine l_arg hc hsc dL_law_1384 dL_law_1385 dL_law_1387 dL_law_1388 dL_law_1389 rfl (by omega) (by omega) ?_
  refine l_arg hc hsc dL_law_1390 dL_law_1391 dL_law_1393 dL_law_1394 dL_law_1395 rfl (by omega) (by omega) ?_
  refine l_arg hc hsc dL_law_1396 dL_law_1397 dL_law_1399 dL_law_1400 dL_law_1401 rfl (by omega) (by omega) ?_
  refine l_callV (d' := d - 1) hc dL_law_1402 vL_133 zM1.choose_spec.choose_spec.1.1 (ev_X11_judge_a (by omega) zM1 (scx_in _ _) (scx_in _ _) (scx_in _ _)) rfl (by omega) (by omega) (by omega) rfl rfl (Nat.le_of_ble_eq_true rfl) (l_retE fun zv2 zq2 zp2 => ?_)
  obtain ⟨zv, zM2, zF2⟩ := zp2
  subst zv
  refine l_icmp_same (tgt := 2052) hc dL_law_1405 (by decide) ?_
  exact hk _ _ _ _ _ _ _ _ (by omega) (by omega) ⟨zB1.mo zF2, zM2, mo_99 zF2 zO1⟩
set_option maxRecDepth 100000 in
set_option maxHeartbeats 4000000 in
theorem law_c23 {w : MC} {k : WC} {d n : Nat} {xs : Nat → Int32} {n1 n2 : Nat} {i : Int} {S : BaS} {th : Int} {f : Int → Int} {h : AH} {z5 z6 : Option AV} (hd : 310 ≤ d) (hntr : k.1.stackTraces = false) (hc : Cx w k d 601024 7293034 mdL_law) (hsc : Sc w n xs) (hi0 : 0 ≤ i) (hi1 : i + 9 ≤ n) (hn1 : n1 + 20 ≤ 601024) (hn2 : n2 + 10000 ≤ 7293034) (hst : LwS h S th f) (hk : ∀ (m1 m2 : Nat) (S1 : BaS) (th1 : Int) (f1 : Int → Int) (h1 : AH) (y5 y6 : Option AV), m1 ≤ n1 + 20 → m2 ≤ n2 + 10000 → LwS h1 S1 th1 f1 → JL w m1 m2 2052 [none, some (vR (0, 0)), some (vR (70, 0)), some (vR (99, 0)), some (vI i), y5, y6] [] h1) : JL w n1 n2 1410 [none, some (vR (0, 0)), some (vR (70, 0)), some (vR (99, 0)), some (vI i), z5, z6] [] h := by
  obtain ⟨hB, hM, hO⟩ := id hst
  refine l_aload_n hc dL_law_1410 rfl ?_
  refine l_arg hc hsc dL_law_1411 dL_law_1412 dL_law_1414 dL_law_1415 dL_law_1416 rfl (by omega) (by omega) ?_
  refine l_arg hc hsc dL_law_1417 dL_law_1418 dL_law_1420 dL_law_1421 dL_law_1422 rfl (by omega) (by omega) ?_
  refine l_arg hc hsc dL_law_1423 dL_law_1424 dL_law_1426 dL_law_1427 dL_law_1428 rfl (by omega) (by omega) ?_
  refine l_arg hc hsc dL_law_1429 dL_law_1430 dL_law_1432 dL_law_1433 dL_law_1434 rfl (by omega) (by omega) ?_
  refine l_callV (d' := d - 1) hc dL_law_1435 vL_134 hB.1.1.1 (ev_X10_news_a (by omega) hB (scx_in _ _) (scx_in _ _) (scx_in _ _) (scx_in _ _)) rfl (by omega) (by omega) (by omega) rfl rfl (Nat.le_of_ble_eq_true rfl) (l_retE fun zv1 zq1 zp1 => ?_)
  obtain ⟨zv, zB1, zF1⟩ := zp1
  subst zv
  obtain ⟨zM1, zO1⟩ := hst.ba zF1
  refine l_aload_n hc dL_law_1438 rfl ?_
  refine l_arg hc hsc dL_law_1439 dL_law_1440 dL_law_1442 dL_law_1443 dL_law_1444 rfl (by omega) (by omega) ?_
  refine l_arg hc hsc dL_law_1445 dL_law_1446 dL_law_1448 dL_law_1449 dL_law_1450 rfl (by omega) (by omega) ?_
  refine l_arg hc hsc dL_law_1451 dL_law_1452 dL_law_1454 dL_law_1455 dL_law_1456 rfl (by omega) (by omega) ?_
  refine l_arg hc hsc dL_law_1457 dL_law_1458 dL_law_1460 dL_law_1461 dL_law_1462 rfl (by omega) (by omega) ?_
  refine l_callV (d' := d - 1) hc dL_law_1463 vL_137 zM1.choose_spec.choose_spec.1.1 (ev_X11_news_a (by omega) zM1 (scx_in _ _) (scx_in _ _) (scx_in _ _) (scx_in _ _)) rfl (by omega) (by omega) (by omega) rfl rfl (Nat.le_of_ble_eq_true rfl) (l_retE fun zv2 zq2 zp2 => ?_)
  obtain ⟨zv, zM2, zF2⟩ := zp2
  subst zv
  refine l_lcmp_same hc dL_law_1466 ?_
  refine l_if_eq (b := 0) (tgt := 2052) hc dL_law_1467 (by decide) ⟨by omega, by omega⟩ (fun _ => ?_) (fun zc2 => absurd rfl zc2)
  exact hk _ _ _ _ _ _ _ _ (by omega) (by omega) ⟨zB1.mo zF2, zM2, mo_99 zF2 zO1⟩
set_option maxRecDepth 100000 in
set_option maxHeartbeats 4000000 in
theorem law_c24 {w : MC} {k : WC} {d n : Nat} {xs : Nat → Int32} {n1 n2 : Nat} {i : Int} {S : BaS} {th : Int} {f : Int → Int} {h : AH} {z5 z6 : Option AV} (hd : 310 ≤ d) (hntr : k.1.stackTraces = false) (hc : Cx w k d 601024 7293034 mdL_law) (hsc : Sc w n xs) (hi0 : 0 ≤ i) (hi1 : i + 9 ≤ n) (hn1 : n1 + 20 ≤ 601024) (hn2 : n2 + 10000 ≤ 7293034) (hst : LwS h S th f) (hk : ∀ (m1 m2 : Nat) (S1 : BaS) (th1 : Int) (f1 : Int → Int) (h1 : AH) (y5 y6 : Option AV), m1 ≤ n1 + 20 → m2 ≤ n2 + 10000 → LwS h1 S1 th1 f1 → JL w m1 m2 2052 [none, some (vR (0, 0)), some (vR (70, 0)), some (vR (99, 0)), some (vI i), y5, y6] [] h1) : JL w n1 n2 1472 [none, some (vR (0, 0)), some (vR (70, 0)), some (vR (99, 0)), some (vI i), z5, z6] [] h := by
  obtain ⟨hB, hM, hO⟩ := id hst
  refine l_aload_n hc dL_law_1472 rfl ?_
  refine l_arg hc hsc dL_law_1473 dL_law_1474 dL_law_1476 dL_law_1477 dL_law_1478 rfl (by omega) (by omega) ?_
  refine l_arg hc hsc dL_law_1479 dL_law_1480 dL_law_1482 dL_law_1483 dL_law_1484 rfl (by omega) (by omega) ?_
  refine l_arg hc hsc dL_law_1485 dL_law_1486 dL_law_1488 dL_law_1489 dL_law_1490 rfl (by omega) (by omega) ?_
  refine l_arg hc hsc dL_law_1491 dL_law_1492 dL_law_1494 dL_law_1495 dL_law_1496 rfl (by omega) (by omega) ?_
  refine l_arg hc hsc dL_law_1497 dL_law_1498 dL_law_1500 dL_law_1501 dL_law_1502 rfl (by omega) (by omega) ?_
  refine l_argB hc hsc dL_law_1503 dL_law_1504 dL_law_1506 (by decide) dL_law_1508 dL_law_1509 rfl (by omega) (by omega) ?_
  refine l_argB hc hsc dL_law_1510 dL_law_1511 dL_law_1513 (by decide) dL_law_1515 dL_law_1516 rfl (by omega) (by omega) ?_
  refine l_argB hc hsc dL_law_1517 dL_law_1518 dL_law_1520 (by decide) dL_law_1522 dL_law_1523 rfl (by omega) (by omega) ?_
  refine l_callV (d' := d - 1) hc dL_law_1524 vL_138 hB.1.1.1 (ev_X10_after_a (by omega) hB (scx_in _ _) (scx_in _ _) (scx_in _ _) (scx_in _ _) (scx_in _ _) (scx_in _ _) (scx_in _ _) (scx_in _ _)) rfl (by omega) (by omega) (by omega) rfl rfl (Nat.le_of_ble_eq_true rfl) (l_retE fun zv1 zq1 zp1 => ?_)
  obtain ⟨zv, zB1, zF1⟩ := zp1
  subst zv
  obtain ⟨zM1, zO1⟩ := hst.ba zF1
  refine l_aload_n hc dL_law_1527 rfl ?_
  refine l_arg hc hsc dL_law_1528 dL_law_1529 dL_law_1531 dL_law_1532 dL_law_1533 rfl (by omega) (by omega) ?_
  refine l_arg hc hsc dL_law_1534 dL_law_1535 dL_law_1537 dL_law_1538 dL_law_1539 rfl (by omega) (by omega) ?_
  refine l_arg hc hsc dL_law_1540 dL_law_1541 dL_law_1543 dL_law_1544 dL_law_1545 rfl (by omega) (by omega) ?_
  refine l_arg hc hsc dL_law_1546 dL_law_1547 dL_law_1549 dL_law_1550 dL_law_1551 rfl (by omega) (by omega) ?_
  refine l_arg hc hsc dL_law_1552 dL_law_1553 dL_law_1555 dL_law_1556 dL_law_1557 rfl (by omega) (by omega) ?_
  refine l_argB hc hsc dL_law_1558 dL_law_1559 dL_law_1561 (by decide) dL_law_1563 dL_law_1564 rfl (by omega) (by omega) ?_
  refine l_argB hc hsc dL_law_1565 dL_law_1566 dL_law_1568 (by decide) dL_law_1570 dL_law_1571 rfl (by omega) (by omega) ?_
  refine l_argB hc hsc dL_law_1572 dL_law_1573 dL_law_1575 (by decide) dL_law_1577 dL_law_1578 rfl (by omega) (by omega) ?_
  refine l_callV (d' := d - 1) hc dL_law_1579 vL_142 zM1.choose_spec.choose_spec.1.1 (ev_X11_after__a (by omega) zM1 (scx_in _ _) (scx_in _ _) (scx_in _ _) (scx_in _ _) (scx_in _ _) (scx_in _ _) (scx_in _ _) (scx_in _ _)) rfl (by omega) (by omega) (by omega) rfl rfl (Nat.le_of_ble_eq_true rfl) (l_retE fun zv2 zq2 zp2 => ?_)
  obtain ⟨zv, zM2, zF2⟩ := zp2
  subst zv
  refine l_lcmp_same hc dL_law_1582 ?_
  refine l_if_eq (b := 0) (tgt := 2052) hc dL_law_1583 (by decide) ⟨by omega, by omega⟩ (fun _ => ?_) (fun zc2 => absurd rfl zc2)
  exact hk _ _ _ _ _ _ _ _ (by omega) (by omega) ⟨zB1.mo zF2, zM2, mo_99 zF2 zO1⟩
set_option maxRecDepth 100000 in
set_option maxHeartbeats 4000000 in
theorem law_c25 {w : MC} {k : WC} {d n : Nat} {xs : Nat → Int32} {n1 n2 : Nat} {i : Int} {S : BaS} {th : Int} {f : Int → Int} {h : AH} {z5 z6 : Option AV} (hd : 310 ≤ d) (hntr : k.1.stackTraces = false) (hc : Cx w k d 601024 7293034 mdL_law) (hsc : Sc w n xs) (hi0 : 0 ≤ i) (hi1 : i + 9 ≤ n) (hn1 : n1 + 20 ≤ 601024) (hn2 : n2 + 10000 ≤ 7293034) (hst : LwS h S th f) (hk : ∀ (m1 m2 : Nat) (S1 : BaS) (th1 : Int) (f1 : Int → Int) (h1 : AH) (y5 y6 : Option AV), m1 ≤ n1 + 20 → m2 ≤ n2 + 10000 → LwS h1 S1 th1 f1 → JL w m1 m2 2052 [none, some (vR (0, 0)), some (vR (70, 0)), some (vR (99, 0)), some (vI i), y5, y6] [] h1) : JL w n1 n2 1588 [none, some (vR (0, 0)), some (vR (70, 0)), some (vR (99, 0)), some (vI i), z5, z6] [] h := by
  obtain ⟨hB, hM, hO⟩ := id hst
  refine l_aload_n hc dL_law_1588 rfl ?_
  refine l_arg hc hsc dL_law_1589 dL_law_1590 dL_law_1592 dL_law_1593 dL_law_1594 rfl (by omega) (by omega) ?_
  refine l_arg hc hsc dL_law_1595 dL_law_1596 dL_law_1598 dL_law_1599 dL_law_1600 rfl (by omega) (by omega) ?_
  refine l_callV (d' := d - 1) hc dL_law_1601 vL_143 hB.1.1.1 (ev_X10_row_a (by omega) hB (scx_in _ _) (scx_in _ _)) rfl (by omega) (by omega) (by omega) rfl rfl (Nat.le_of_ble_eq_true rfl) (l_retE fun zv1 zq1 zp1 => ?_)
  obtain ⟨zv, zB1, zF1⟩ := zp1
  subst zv
  obtain ⟨zM1, zO1⟩ := hst.ba zF1
  refine l_aload_n hc dL_law_1604 rfl ?_
  refine l_arg hc hsc dL_law_1605 dL_law_1606 dL_law_1608 dL_law_1609 dL_law_1610 rfl (by omega) (by omega) ?_
  refine l_arg hc hsc dL_law_1611 dL_law_1612 dL_law_1614 dL_law_1615 dL_law_1616 rfl (by omega) (by omega) ?_
  refine l_callV (d' := d - 1) hc dL_law_1617 vL_146 zM1.choose_spec.choose_spec.1.1 (ev_X11_row_a (by omega) zM1 (scx_in _ _) (scx_in _ _) zB1.2.2.2.2.2) rfl (by omega) (by omega) (by omega) rfl rfl (Nat.le_of_ble_eq_true rfl) (l_retE fun zv2 zq2 zp2 => ?_)
  obtain ⟨zv, zM2, zF2⟩ := zp2
  subst zv
  refine l_icmp_same (tgt := 2052) hc dL_law_1620 (by decide) ?_
  exact hk _ _ _ _ _ _ _ _ (by omega) (by omega) ⟨zB1.mo zF2, zM2, mo_99 zF2 zO1⟩
set_option maxRecDepth 100000 in
set_option maxHeartbeats 4000000 in
theorem law_c26 {w : MC} {k : WC} {d n : Nat} {xs : Nat → Int32} {n1 n2 : Nat} {i : Int} {S : BaS} {th : Int} {f : Int → Int} {h : AH} {z5 z6 : Option AV} (hd : 310 ≤ d) (hntr : k.1.stackTraces = false) (hc : Cx w k d 601024 7293034 mdL_law) (hsc : Sc w n xs) (hi0 : 0 ≤ i) (hi1 : i + 9 ≤ n) (hn1 : n1 + 20 ≤ 601024) (hn2 : n2 + 10000 ≤ 7293034) (hst : LwS h S th f) (hk : ∀ (m1 m2 : Nat) (S1 : BaS) (th1 : Int) (f1 : Int → Int) (h1 : AH) (y5 y6 : Option AV), m1 ≤ n1 + 20 → m2 ≤ n2 + 10000 → LwS h1 S1 th1 f1 → JL w m1 m2 2052 [none, some (vR (0, 0)), some (vR (70, 0)), some (vR (99, 0)), some (vI i), y5, y6] [] h1) : JL w n1 n2 1625 [none, some (vR (0, 0)), some (vR (70, 0)), some (vR (99, 0)), some (vI i), z5, z6] [] h := by
  obtain ⟨hB, hM, hO⟩ := id hst
  refine l_aload_n hc dL_law_1625 rfl ?_
  refine l_arg hc hsc dL_law_1626 dL_law_1627 dL_law_1629 dL_law_1630 dL_law_1631 rfl (by omega) (by omega) ?_
  refine l_callV (d' := d - 1) hc dL_law_1632 vL_147 hB.1.1.1 (ev_X10_clear_a (by omega) hB (scx_in _ _)) rfl (by omega) (by omega) (by omega) rfl rfl (Nat.le_of_ble_eq_true rfl) (l_retE fun zv1 zq1 zp1 => ?_)
  obtain ⟨zv, zB1, zF1⟩ := zp1
  subst zv
  obtain ⟨zM1, zO1⟩ := hst.ba zF1
  refine l_aload_n hc dL_law_1635 rfl ?_
  refine l_arg hc hsc dL_law_1636 dL_law_1637 dL_law_1639 dL_law_1640 dL_law_1641 rfl (by omega) (by omega) ?_
  refine l_callV (d' := d - 1) hc dL_law_1642 vL_150 zM1.choose_spec.choose_spec.1.1 (ev_X11_clear_a (by omega) zM1 (scx_in _ _) zB1.2.2.2.2.2) rfl (by omega) (by omega) (by omega) rfl rfl (Nat.le_of_ble_eq_true rfl) (l_retE fun zv2 zq2 zp2 => ?_)
  obtain ⟨zv, zM2, zF2⟩ := zp2
  subst zv
  refine l_icmp_same (tgt := 2052) hc dL_law_1645 (by decide) ?_
  exact hk _ _ _ _ _ _ _ _ (by omega) (by omega) ⟨zB1.mo zF2, zM2, mo_99 zF2 zO1⟩
set_option maxRecDepth 100000 in
set_option maxHeartbeats 4000000 in
theorem law_c27 {w : MC} {k : WC} {d n : Nat} {xs : Nat → Int32} {n1 n2 : Nat} {i : Int} {S : BaS} {th : Int} {f : Int → Int} {h : AH} {z5 z6 : Option AV} (hd : 310 ≤ d) (hntr : k.1.stackTraces = false) (hc : Cx w k d 601024 7293034 mdL_law) (hsc : Sc w n xs) (hi0 : 0 ≤ i) (hi1 : i + 9 ≤ n) (hn1 : n1 + 20 ≤ 601024) (hn2 : n2 + 10000 ≤ 7293034) (hst : LwS h S th f) (hk : ∀ (m1 m2 : Nat) (S1 : BaS) (th1 : Int) (f1 : Int → Int) (h1 : AH) (y5 y6 : Option AV), m1 ≤ n1 + 20 → m2 ≤ n2 + 10000 → LwS h1 S1 th1 f1 → JL w m1 m2 2052 [none, some (vR (0, 0)), some (vR (70, 0)), some (vR (99, 0)), some (vI i), y5, y6] [] h1) : JL w n1 n2 1650 [none, some (vR (0, 0)), some (vR (70, 0)), some (vR (99, 0)), some (vI i), z5, z6] [] h := by
  obtain ⟨hB, hM, hO⟩ := id hst
  refine l_aload_n hc dL_law_1650 rfl ?_
  refine l_arg hc hsc dL_law_1651 dL_law_1652 dL_law_1654 dL_law_1655 dL_law_1656 rfl (by omega) (by omega) ?_
  refine l_arg hc hsc dL_law_1657 dL_law_1658 dL_law_1660 dL_law_1661 dL_law_1662 rfl (by omega) (by omega) ?_
  refine l_arg hc hsc dL_law_1663 dL_law_1664 dL_law_1666 dL_law_1667 dL_law_1668 rfl (by omega) (by omega) ?_
  refine l_arg hc hsc dL_law_1669 dL_law_1670 dL_law_1672 dL_law_1673 dL_law_1674 rfl (by omega) (by omega) ?_
  refine l_callV (d' := d - 1) hc dL_law_1675 vL_151 hB.1.1.1 (ev_X10_granary_a (by omega) hB (scx_in _ _) (scx_in _ _) (scx_in _ _) (scx_in _ _)) rfl (by omega) (by omega) (by omega) rfl rfl (Nat.le_of_ble_eq_true rfl) (l_retE fun zv1 zq1 zp1 => ?_)
  obtain ⟨zv, zB1, zF1⟩ := zp1
  subst zv
  obtain ⟨zM1, zO1⟩ := hst.ba zF1
  refine l_aload_n hc dL_law_1678 rfl ?_
  refine l_arg hc hsc dL_law_1679 dL_law_1680 dL_law_1682 dL_law_1683 dL_law_1684 rfl (by omega) (by omega) ?_
  refine l_arg hc hsc dL_law_1685 dL_law_1686 dL_law_1688 dL_law_1689 dL_law_1690 rfl (by omega) (by omega) ?_
  refine l_arg hc hsc dL_law_1691 dL_law_1692 dL_law_1694 dL_law_1695 dL_law_1696 rfl (by omega) (by omega) ?_
  refine l_arg hc hsc dL_law_1697 dL_law_1698 dL_law_1700 dL_law_1701 dL_law_1702 rfl (by omega) (by omega) ?_
  refine l_callV (d' := d - 1) hc dL_law_1703 vL_154 zM1.choose_spec.choose_spec.1.1 (ev_X11_granary_a (by omega) zM1 (scx_in _ _) (scx_in _ _) (scx_in _ _) (scx_in _ _) zB1.2.2.2.2.2) rfl (by omega) (by omega) (by omega) rfl rfl (Nat.le_of_ble_eq_true rfl) (l_retE fun zv2 zq2 zp2 => ?_)
  obtain ⟨zv, zM2, zF2⟩ := zp2
  subst zv
  refine l_icmp_same (tgt := 2052) hc dL_law_1706 (by decide) ?_
  exact hk _ _ _ _ _ _ _ _ (by omega) (by omega) ⟨zB1.mo zF2, zM2, mo_99 zF2 zO1⟩
set_option maxRecDepth 100000 in
set_option maxHeartbeats 4000000 in
theorem law_c28 {w : MC} {k : WC} {d n : Nat} {xs : Nat → Int32} {n1 n2 : Nat} {i : Int} {S : BaS} {th : Int} {f : Int → Int} {h : AH} {z5 z6 : Option AV} (hd : 310 ≤ d) (hntr : k.1.stackTraces = false) (hc : Cx w k d 601024 7293034 mdL_law) (hsc : Sc w n xs) (hi0 : 0 ≤ i) (hi1 : i + 9 ≤ n) (hn1 : n1 + 20 ≤ 601024) (hn2 : n2 + 10000 ≤ 7293034) (hst : LwS h S th f) (hk : ∀ (m1 m2 : Nat) (S1 : BaS) (th1 : Int) (f1 : Int → Int) (h1 : AH) (y5 y6 : Option AV), m1 ≤ n1 + 20 → m2 ≤ n2 + 10000 → LwS h1 S1 th1 f1 → JL w m1 m2 2052 [none, some (vR (0, 0)), some (vR (70, 0)), some (vR (99, 0)), some (vI i), y5, y6] [] h1) : JL w n1 n2 1711 [none, some (vR (0, 0)), some (vR (70, 0)), some (vR (99, 0)), some (vI i), z5, z6] [] h := by
  obtain ⟨hB, hM, hO⟩ := id hst
  refine l_aload_n hc dL_law_1711 rfl ?_
  refine l_arg hc hsc dL_law_1712 dL_law_1713 dL_law_1715 dL_law_1716 dL_law_1717 rfl (by omega) (by omega) ?_
  refine l_arg hc hsc dL_law_1718 dL_law_1719 dL_law_1721 dL_law_1722 dL_law_1723 rfl (by omega) (by omega) ?_
  refine l_arg hc hsc dL_law_1724 dL_law_1725 dL_law_1727 dL_law_1728 dL_law_1729 rfl (by omega) (by omega) ?_
  refine l_arg hc hsc dL_law_1730 dL_law_1731 dL_law_1733 dL_law_1734 dL_law_1735 rfl (by omega) (by omega) ?_
  refine l_callV (d' := d - 1) hc dL_law_1736 vL_155 hB.1.1.1 (ev_X10_run_a (by omega) hB (scx_in _ _) (scx_in _ _) (scx_in _ _) (scx_in _ _)) rfl (by omega) (by omega) (by omega) rfl rfl (Nat.le_of_ble_eq_true rfl) (l_retE fun zv1 zq1 zp1 => ?_)
  obtain ⟨zv, zB1, zF1⟩ := zp1
  subst zv
  obtain ⟨zM1, zO1⟩ := hst.ba zF1
  refine l_aload_n hc dL_law_1739 rfl ?_
  refine l_arg hc hsc dL_law_1740 dL_law_1741 dL_law_1743 dL_law_1744 dL_law_1745 rfl (by omega) (by omega) ?_
  refine l_arg hc hsc dL_law_1746 dL_law_1747 dL_law_1749 dL_law_1750 dL_law_1751 rfl (by omega) (by omega) ?_
  refine l_arg hc hsc dL_law_1752 dL_law_1753 dL_law_1755 dL_law_1756 dL_law_1757 rfl (by omega) (by omega) ?_
  refine l_arg hc hsc dL_law_1758 dL_law_1759 dL_law_1761 dL_law_1762 dL_law_1763 rfl (by omega) (by omega) ?_
  refine l_callV (d' := d - 1) hc dL_law_1764 vL_158 zM1.choose_spec.choose_spec.1.1 (ev_X11_run__a (by omega) zM1 (scx_in _ _) (scx_in _ _) (scx_in _ _) (scx_in _ _) zB1.2.2.2.2.2) rfl (by omega) (by omega) (by omega) rfl rfl (Nat.le_of_ble_eq_true rfl) (l_retE fun zv2 zq2 zp2 => ?_)
  obtain ⟨zv, zM2, zF2⟩ := zp2
  subst zv
  refine l_icmp_same (tgt := 2052) hc dL_law_1767 (by decide) ?_
  exact hk _ _ _ _ _ _ _ _ (by omega) (by omega) ⟨zB1.mo zF2, zM2, mo_99 zF2 zO1⟩
set_option maxRecDepth 100000 in
set_option maxHeartbeats 4000000 in
theorem law_c29 {w : MC} {k : WC} {d n : Nat} {xs : Nat → Int32} {n1 n2 : Nat} {i : Int} {S : BaS} {th : Int} {f : Int → Int} {h : AH} {z5 z6 : Option AV} (hd : 310 ≤ d) (hntr : k.1.stackTraces = false) (hc : Cx w k d 601024 7293034 mdL_law) (hsc : Sc w n xs) (hi0 : 0 ≤ i) (hi1 : i + 9 ≤ n) (hn1 : n1 + 20 ≤ 601024) (hn2 : n2 + 10000 ≤ 7293034) (hst : LwS h S th f) (hk : ∀ (m1 m2 : Nat) (S1 : BaS) (th1 : Int) (f1 : Int → Int) (h1 : AH) (y5 y6 : Option AV), m1 ≤ n1 + 20 → m2 ≤ n2 + 10000 → LwS h1 S1 th1 f1 → JL w m1 m2 2052 [none, some (vR (0, 0)), some (vR (70, 0)), some (vR (99, 0)), some (vI i), y5, y6] [] h1) : JL w n1 n2 1772 [none, some (vR (0, 0)), some (vR (70, 0)), some (vR (99, 0)), some (vI i), z5, z6] [] h := by
  obtain ⟨hB, hM, hO⟩ := id hst
  refine l_aload_n hc dL_law_1772 rfl ?_
  refine l_arg hc hsc dL_law_1773 dL_law_1774 dL_law_1776 dL_law_1777 dL_law_1778 rfl (by omega) (by omega) ?_
  refine l_arg hc hsc dL_law_1779 dL_law_1780 dL_law_1782 dL_law_1783 dL_law_1784 rfl (by omega) (by omega) ?_
  refine l_arg hc hsc dL_law_1785 dL_law_1786 dL_law_1788 dL_law_1789 dL_law_1790 rfl (by omega) (by omega) ?_
  refine l_arg hc hsc dL_law_1791 dL_law_1792 dL_law_1794 dL_law_1795 dL_law_1796 rfl (by omega) (by omega) ?_
  refine l_arg hc hsc dL_law_1797 dL_law_1798 dL_law_1800 dL_law_1801 dL_law_1802 rfl (by omega) (by omega) ?_
  refine l_argB hc hsc dL_law_1803 dL_law_1804 dL_law_1806 (by decide) dL_law_1808 dL_law_1809 rfl (by omega) (by omega) ?_
  refine l_argB hc hsc dL_law_1810 dL_law_1811 dL_law_1813 (by decide) dL_law_1815 dL_law_1816 rfl (by omega) (by omega) ?_
  refine l_callV (d' := d - 1) hc dL_law_1817 vL_159 hB.1.1.1 (ev_X10_towns_a (by omega) hB (scx_in _ _) (scx_in _ _) (scx_in _ _) (scx_in _ _) (scx_in _ _) (scx_in _ _) (scx_in _ _)) rfl (by omega) (by omega) (by omega) rfl rfl (Nat.le_of_ble_eq_true rfl) (l_retE fun zv1 zq1 zp1 => ?_)
  obtain ⟨zv, zB1, zF1⟩ := zp1
  subst zv
  obtain ⟨zM1, zO1⟩ := hst.ba zF1
  refine l_aload_n hc dL_law_1820 rfl ?_
  refine l_arg hc hsc dL_law_1821 dL_law_1822 dL_law_1824 dL_law_1825 dL_law_1826 rfl (by omega) (by omega) ?_
  refine l_arg hc hsc dL_law_1827 dL_law_1828 dL_law_1830 dL_law_1831 dL_law_1832 rfl (by omega) (by omega) ?_
  refine l_arg hc hsc dL_law_1833 dL_law_1834 dL_law_1836 dL_law_1837 dL_law_1838 rfl (by omega) (by omega) ?_
  refine l_arg hc hsc dL_law_1839 dL_law_1840 dL_law_1842 dL_law_1843 dL_law_1844 rfl (by omega) (by omega) ?_
  refine l_arg hc hsc dL_law_1845 dL_law_1846 dL_law_1848 dL_law_1849 dL_law_1850 rfl (by omega) (by omega) ?_
  refine l_argB hc hsc dL_law_1851 dL_law_1852 dL_law_1854 (by decide) dL_law_1856 dL_law_1857 rfl (by omega) (by omega) ?_
  refine l_argB hc hsc dL_law_1858 dL_law_1859 dL_law_1861 (by decide) dL_law_1863 dL_law_1864 rfl (by omega) (by omega) ?_
  refine l_callV (d' := d - 1) hc dL_law_1865 vL_163 zM1.choose_spec.choose_spec.1.1 (ev_X11_towns_a (by omega) zM1 (scx_in _ _) (scx_in _ _) (scx_in _ _) (scx_in _ _) (scx_in _ _) (scx_in _ _) (scx_in _ _) zB1.2.2.2.2.2) rfl (by omega) (by omega) (by omega) rfl rfl (Nat.le_of_ble_eq_true rfl) (l_retE fun zv2 zq2 zp2 => ?_)
  obtain ⟨zv, zM2, zF2⟩ := zp2
  subst zv
  refine l_icmp_same (tgt := 2052) hc dL_law_1868 (by decide) ?_
  exact hk _ _ _ _ _ _ _ _ (by omega) (by omega) ⟨zB1.mo zF2, zM2, mo_99 zF2 zO1⟩
set_option maxRecDepth 100000 in
set_option maxHeartbeats 4000000 in
theorem law_c30 {w : MC} {k : WC} {d n : Nat} {xs : Nat → Int32} {n1 n2 : Nat} {i : Int} {S : BaS} {th : Int} {f : Int → Int} {h : AH} {z5 z6 : Option AV} (hd : 310 ≤ d) (hntr : k.1.stackTraces = false) (hc : Cx w k d 601024 7293034 mdL_law) (hsc : Sc w n xs) (hi0 : 0 ≤ i) (hi1 : i + 9 ≤ n) (hn1 : n1 + 20 ≤ 601024) (hn2 : n2 + 10000 ≤ 7293034) (hst : LwS h S th f) (hk : ∀ (m1 m2 : Nat) (S1 : BaS) (th1 : Int) (f1 : Int → Int) (h1 : AH) (y5 y6 : Option AV), m1 ≤ n1 + 20 → m2 ≤ n2 + 10000 → LwS h1 S1 th1 f1 → JL w m1 m2 2052 [none, some (vR (0, 0)), some (vR (70, 0)), some (vR (99, 0)), some (vI i), y5, y6] [] h1) : JL w n1 n2 1873 [none, some (vR (0, 0)), some (vR (70, 0)), some (vR (99, 0)), some (vI i), z5, z6] [] h := by
  obtain ⟨hB, hM, hO⟩ := id hst
  refine l_aload_n hc dL_law_1873 rfl ?_
  refine l_arg hc hsc dL_law_1874 dL_law_1875 dL_law_1877 dL_law_1878 dL_law_1879 rfl (by omega) (by omega) ?_
  refine l_arg hc hsc dL_law_1880 dL_law_1881 dL_law_1883 dL_law_1884 dL_law_1885 rfl (by omega) (by omega) ?_
  refine l_arg hc hsc dL_law_1886 dL_law_1887 dL_law_1889 dL_law_1890 dL_law_1891 rfl (by omega) (by omega) ?_
  refine l_aload_n hc dL_law_1892 rfl ?_
  refine l_callSW (d' := d - 1) hc hsc dL_law_1893 sL_164 (ev_L_ran (by omega) hntr hB hO (scx_in _ _) (scx_in _ _) (scx_in _ _)) rfl (by omega) (by omega) (by omega) rfl rfl (Nat.le_of_ble_eq_true rfl) (l_retE fun zv1 zq1 zp1 => ?_)
  obtain ⟨zv, ⟨zg, zO1, zgv⟩, zB1, zF1⟩ := zp1
  subst zv
  have zM1 := hst.bl zF1
  refine l_istore (L' := [_, _, _, _, _, _, _]) hc dL_law_1896 (Nat.le_of_ble_eq_true rfl) (by decide) rfl ?_
  refine l_aload_n hc dL_law_1898 rfl ?_
  refine l_arg hc hsc dL_law_1899 dL_law_1900 dL_law_1902 dL_law_1903 dL_law_1904 rfl (by omega) (by omega) ?_
  refine l_arg hc hsc dL_law_1905 dL_law_1906 dL_law_1908 dL_law_1909 dL_law_1910 rfl (by omega) (by omega) ?_
  refine l_arg hc hsc dL_law_1911 dL_law_1912 dL_law_1914 dL_law_1915 dL_law_1916 rfl (by omega) (by omega) ?_
  refine l_callV (d' := d - 1) hc dL_law_1917 vL_167 zM1.choose_spec.choose_spec.1.1 (ev_X11_ran_a (by omega) zM1 (scx_in _ _) (scx_in _ _) (scx_in _ _)) rfl (by omega) (by omega) (by omega) rfl rfl (Nat.le_of_ble_eq_true rfl) (l_retE fun zv2 zq2 zp2 => ?_)
  obtain ⟨zv, zM2, zF2⟩ := zp2
  subst zv
  have zB2 := zB1.mo zF2
  have zO2 := mo_99 zF2 zO1
  refine l_istore (L' := [_, _, _, _, _, _, _]) hc dL_law_1920 (Nat.le_of_ble_eq_true rfl) (by decide) rfl ?_
  refine l_aload_n hc dL_law_1922 rfl ?_
  refine l_callV (d' := d - 1) hc dL_law_1923 vL_62 zM2.choose_spec.choose_spec.1.1 (ev_X11_thrown (by omega) zM2) rfl (by omega) (by omega) (by omega) rfl rfl (Nat.le_of_ble_eq_true rfl) (l_ret1 ?_)
  refine l_iload hc dL_law_1926 rfl ?_
  refine l_icmp_same (tgt := 1933) hc dL_law_1928 (by decide) ?_
  refine l_iload hc dL_law_1933 rfl ?_
  refine l_if_ne (b := 0) (tgt := 1950) hc dL_law_1935 (by decide) (by unfold tRan; split <;> exact ⟨by omega, by omega⟩) (fun zc => ?_) (fun zc => ?_)
  · refine l_goto (tgt := 2052) hc dL_law_1950 (by decide) ?_
    exact hk _ _ S _ zg _ _ _ (by omega) (by omega) ⟨zB2, zM2, zO2⟩
  · refine l_aload_n hc dL_law_1938 rfl ?_
    refine l_iconst hc dL_law_1939 ?_
    refine l_lald hc dL_law_1940 zO2 (by omega) (by omega) ?_
    rw [zgv zc]
    refine l_iload hc dL_law_1941 rfl ?_
    refine l_norm ?_
    refine l_i2l hc dL_law_1943 (nrI_in _) ?_
    refine l_lcmp_same hc dL_law_1944 ?_
    refine l_if_eq (b := 0) (tgt := 1950) hc dL_law_1945 (by decide) ⟨by omega, by omega⟩ (fun _ => ?_) (fun zc2 => absurd rfl zc2)
    refine l_goto (tgt := 2052) hc dL_law_1950 (by decide) ?_
    exact hk _ _ S _ zg _ _ _ (by omega) (by omega) ⟨zB2, zM2, zO2⟩
set_option maxRecDepth 100000 in
set_option maxHeartbeats 4000000 in
theorem law_c31 {w : MC} {k : WC} {d n : Nat} {xs : Nat → Int32} {n1 n2 : Nat} {i : Int} {S : BaS} {th : Int} {f : Int → Int} {h : AH} {z5 z6 : Option AV} (hd : 310 ≤ d) (hntr : k.1.stackTraces = false) (hc : Cx w k d 601024 7293034 mdL_law) (hsc : Sc w n xs) (hi0 : 0 ≤ i) (hi1 : i + 9 ≤ n) (hn1 : n1 + 20 ≤ 601024) (hn2 : n2 + 10000 ≤ 7293034) (hst : LwS h S th f) (hk : ∀ (m1 m2 : Nat) (S1 : BaS) (th1 : Int) (f1 : Int → Int) (h1 : AH) (y5 y6 : Option AV), m1 ≤ n1 + 20 → m2 ≤ n2 + 10000 → LwS h1 S1 th1 f1 → JL w m1 m2 2052 [none, some (vR (0, 0)), some (vR (70, 0)), some (vR (99, 0)), some (vI i), y5, y6] [] h1) : JL w n1 n2 1953 [none, some (vR (0, 0)), some (vR (70, 0)), some (vR (99, 0)), some (vI i), z5, z6] [] h := by
  obtain ⟨hB, hM, hO⟩ := id hst
  refine l_aload_n hc dL_law_1953 rfl ?_
  refine l_callV (d' := d - 1) hc dL_law_1954 vL_168 hB.1.1.1 (ev_X10_spent (by omega) hB ) rfl (by omega) (by omega) (by omega) rfl rfl (Nat.le_of_ble_eq_true rfl) (l_ret1 ?_)
  refine l_aload_n hc dL_law_1957 rfl ?_
  refine l_callV (d' := d - 1) hc dL_law_1958 vL_171 hM.choose_spec.choose_spec.1.1 (ev_X11_spent (by omega) hM ) rfl (by omega) (by omega) (by omega) rfl rfl (Nat.le_of_ble_eq_true rfl) (l_ret1 ?_)
  refine l_icmp_same (tgt := 2052) hc dL_law_1961 (by decide) ?_
  exact hk _ _ _ _ _ _ _ _ (by omega) (by omega) ⟨hB, hM, hO⟩
set_option maxRecDepth 100000 in
set_option maxHeartbeats 4000000 in
theorem law_c32 {w : MC} {k : WC} {d n : Nat} {xs : Nat → Int32} {n1 n2 : Nat} {i : Int} {S : BaS} {th : Int} {f : Int → Int} {h : AH} {z5 z6 : Option AV} (hd : 310 ≤ d) (hntr : k.1.stackTraces = false) (hc : Cx w k d 601024 7293034 mdL_law) (hsc : Sc w n xs) (hi0 : 0 ≤ i) (hi1 : i + 9 ≤ n) (hn1 : n1 + 20 ≤ 601024) (hn2 : n2 + 10000 ≤ 7293034) (hst : LwS h S th f) (hk : ∀ (m1 m2 : Nat) (S1 : BaS) (th1 : Int) (f1 : Int → Int) (h1 : AH) (y5 y6 : Option AV), m1 ≤ n1 + 20 → m2 ≤ n2 + 10000 → LwS h1 S1 th1 f1 → JL w m1 m2 2052 [none, some (vR (0, 0)), some (vR (70, 0)), some (vR (99, 0)), some (vI i), y5, y6] [] h1) : JL w n1 n2 1966 [none, some (vR (0, 0)), some (vR (70, 0)), some (vR (99, 0)), some (vI i), z5, z6] [] h := by
  obtain ⟨hB, hM, hO⟩ := id hst
  refine l_aload_n hc dL_law_1966 rfl ?_
  refine l_arg hc hsc dL_law_1967 dL_law_1968 dL_law_1970 dL_law_1971 dL_law_1972 rfl (by omega) (by omega) ?_
  refine l_arg hc hsc dL_law_1973 dL_law_1974 dL_law_1976 dL_law_1977 dL_law_1978 rfl (by omega) (by omega) ?_
  refine l_arg hc hsc dL_law_1979 dL_law_1980 dL_law_1982 dL_law_1983 dL_law_1984 rfl (by omega) (by omega) ?_
  refine l_arg hc hsc dL_law_1985 dL_law_1986 dL_law_1988 dL_law_1989 dL_law_1990 rfl (by omega) (by omega) ?_
  refine l_callV (d' := d - 1) hc dL_law_1991 vL_172 hB.1.1.1 (ev_X10_blame_a (by omega) hB (scx_in _ _) (scx_in _ _) (scx_in _ _) (scx_in _ _)) rfl (by omega) (by omega) (by omega) rfl rfl (Nat.le_of_ble_eq_true rfl) (l_retE fun zv1 zq1 zp1 => ?_)
  obtain ⟨zv, zB1, zF1⟩ := zp1
  subst zv
  obtain ⟨zM1, zO1⟩ := hst.ba zF1
  refine l_aload_n hc dL_law_1994 rfl ?_
  refine l_arg hc hsc dL_law_1995 dL_law_1996 dL_law_1998 dL_law_1999 dL_law_2000 rfl (by omega) (by omega) ?_
  refine l_arg hc hsc dL_law_2001 dL_law_2002 dL_law_2004 dL_law_2005 dL_law_2006 rfl (by omega) (by omega) ?_
  refine l_arg hc hsc dL_law_2007 dL_law_2008 dL_law_2010 dL_law_2011 dL_law_2012 rfl (by omega) (by omega) ?_
  refine l_arg hc hsc dL_law_2013 dL_law_2014 dL_law_2016 dL_law_2017 dL_law_2018 rfl (by omega) (by omega) ?_
  refine l_callV (d' := d - 1) hc dL_law_2019 vL_175 zM1.choose_spec.choose_spec.1.1 (ev_X11_blame_a (by omega) zM1 (scx_in _ _) (scx_in _ _) (scx_in _ _) (scx_in _ _)) rfl (by omega) (by omega) (by omega) rfl rfl (Nat.le_of_ble_eq_true rfl) (l_retE fun zv2 zq2 zp2 => ?_)
  obtain ⟨zv, zM2, zF2⟩ := zp2
  subst zv
  refine l_icmp_same (tgt := 2052) hc dL_law_2022 (by decide) ?_
  exact hk _ _ _ _ _ _ _ _ (by omega) (by omega) ⟨zB1.mo zF2, zM2, mo_99 zF2 zO1⟩
set_option maxRecDepth 100000 in
set_option maxHeartbeats 4000000 in
theorem law_c33 {w : MC} {k : WC} {d n : Nat} {xs : Nat → Int32} {n1 n2 : Nat} {i : Int} {S : BaS} {th : Int} {f : Int → Int} {h : AH} {z5 z6 : Option AV} (hd : 310 ≤ d) (hntr : k.1.stackTraces = false) (hc : Cx w k d 601024 7293034 mdL_law) (hsc : Sc w n xs) (hi0 : 0 ≤ i) (hi1 : i + 9 ≤ n) (hn1 : n1 + 20 ≤ 601024) (hn2 : n2 + 10000 ≤ 7293034) (hst : LwS h S th f) (hk : ∀ (m1 m2 : Nat) (S1 : BaS) (th1 : Int) (f1 : Int → Int) (h1 : AH) (y5 y6 : Option AV), m1 ≤ n1 + 20 → m2 ≤ n2 + 10000 → LwS h1 S1 th1 f1 → JL w m1 m2 2052 [none, some (vR (0, 0)), some (vR (70, 0)), some (vR (99, 0)), some (vI i), y5, y6] [] h1) : JL w n1 n2 2027 [none, some (vR (0, 0)), some (vR (70, 0)), some (vR (99, 0)), some (vI i), z5, z6] [] h := by
  obtain ⟨hB, hM, hO⟩ := id hst
  refine l_aload_n hc dL_law_2027 rfl ?_
  refine l_arg hc hsc dL_law_2028 dL_law_2029 dL_law_2031 dL_law_2032 dL_law_2033 rfl (by omega) (by omega) ?_
  refine l_callV (d' := d - 1) hc dL_law_2034 vL_176 hB.1.1.1 (ev_X10_count (by omega) hB (scx_in _ _)) rfl (by omega) (by omega) (by omega) rfl rfl (Nat.le_of_ble_eq_true rfl) (l_ret1 ?_)
  refine l_aload_n hc dL_law_2037 rfl ?_
  refine l_arg hc hsc dL_law_2038 dL_law_2039 dL_law_2041 dL_law_2042 dL_law_2043 rfl (by omega) (by omega) ?_
  refine l_callV (d' := d - 1) hc dL_law_2044 vL_179 hM.choose_spec.choose_spec.1.1 (ev_X11_count (by omega) hM (scx_in _ _)) rfl (by omega) (by omega) (by omega) rfl rfl (Nat.le_of_ble_eq_true rfl) (l_ret1 ?_)
  refine l_icmp_same (tgt := 2052) hc dL_law_2047 (by decide) ?_
  exact hk _ _ _ _ _ _ _ _ (by omega) (by omega) ⟨hB, hM, hO⟩
