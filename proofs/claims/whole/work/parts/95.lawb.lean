section
variable {l : Launch} {g : GG}
set_option maxRecDepth 100000 in
set_option maxHeartbeats 40000000 in
theorem t_L_law_b2505 (h0 : AH) (N : Nat) (k n : Nat) (hk : k + 10 ≤ 600000) (hn : n + 120 ≤ 7302250) (K18 : AH → Nat → Nat → Nat → Int32 → Option (Int32 × AH)) (hK18 : ∀ (z : AH) (z0 : Nat) (z1 : Nat) (z2 : Nat) (z3 : Int32) , AO l g M_L_law true h0 18 [(0, .ref z0), (1, .ref z1), (2, .ref z2), (3, .int z3)] [] z (k + 7) (n + 100) rSi (K18 z z0 z1 z2 z3)) (h : AH) (x0 : Nat) (x1 : Nat) (x2 : Nat) (x3 : Int32) : AO l g M_L_law true h0 2505 [(0, .ref x0), (1, .ref x1), (2, .ref x2), (3, .int x3)] [] h (k + 7) (n + 100) rSi (f_L_law_b2505 N K18 h x0 x1 x2 x3) := by
  unfold f_L_law_b2505
  refine a_iinc (q := 3) (v := (x3 + 8)) (lc2 := [(3, .int (x3 + 8)), (0, .ref x0), (1, .ref x1), (2, .ref x2)]) dL_law_2505 rfl rfl (by decide) rfl ?_
  refine a_goto 18 dL_law_2508 (by decide) ?_
  refine a_pick (lc2 := [(0, .ref x0), (1, .ref x1), (2, .ref x2), (3, .int (x3 + 8))]) [1, 2, 3, 0] rfl ?_
  exact hK18 h x0 x1 x2 (x3 + 8)
set_option maxRecDepth 100000 in
set_option maxHeartbeats 40000000 in
theorem t_L_law_b264 (h0 : AH) (N : Nat) (k n : Nat) (hk : k + 10 ≤ 600000) (hn : n + 120 ≤ 7302250) (K18 : AH → Nat → Nat → Nat → Int32 → Option (Int32 × AH)) (hK18 : ∀ (z : AH) (z0 : Nat) (z1 : Nat) (z2 : Nat) (z3 : Int32) , AO l g M_L_law true h0 18 [(0, .ref z0), (1, .ref z1), (2, .ref z2), (3, .int z3)] [] z (k + 7) (n + 100) rSi (K18 z z0 z1 z2 z3)) (h : AH) (x0 : Nat) (x1 : Nat) (x2 : Nat) (x3 : Int32) : AO l g M_L_law true h0 264 [(0, .ref x0), (1, .ref x1), (2, .ref x2), (3, .int x3)] [] h k n rSi (f_L_law_b264 N K18 h x0 x1 x2 x3) := by
  unfold f_L_law_b264
  refine a_aload_n dL_law_264 rfl 1 rfl ?_
  refine a_aload_n dL_law_265 rfl 0 rfl ?_
  refine a_iload_n dL_law_266 rfl 3 rfl ?_
  refine a_iconst (v := 1) dL_law_267 (by decide) ?_
  refine a_iadd dL_law_268 ?_
  refine a_iald dL_law_269 (fun v62 => ?_)
  refine a_aload_n dL_law_270 rfl 0 rfl ?_
  refine a_iload_n dL_law_271 rfl 3 rfl ?_
  refine a_iconst (v := 2) dL_law_272 (by decide) ?_
  refine a_iadd dL_law_273 ?_
  refine a_iald dL_law_274 (fun v63 => ?_)
  refine a_aload_n dL_law_275 rfl 0 rfl ?_
  refine a_iload_n dL_law_276 rfl 3 rfl ?_
  refine a_iconst (v := 3) dL_law_277 (by decide) ?_
  refine a_iadd dL_law_278 ?_
  refine a_iald dL_law_279 (fun v64 => ?_)
  refine a_xV_Si (r := x1) (ci := 12) (as := [.int v62, .int v63, .int v64]) (st := []) dL_law_280 [x0, x1, x2] rfl (c_X11_gauge l g h x1 v62 v63 v64) rfl km_X11_gauge rfl (by decide) rfl (fun _ ee => g_X11_gauge ee) w_methodLink_RainCoverLaw_13 w_instanceMethod_RainCover_gauge__III_I w_selects_RainCover_RainCover_gauge__III_I_RainCover_gauge__III_I ⟨⟨by decide, by decide⟩, ⟨by show k + 2 ≤ 600000; omega, by show n + 44 ≤ 7302250; omega⟩⟩ (Nat.le_of_ble_eq_true rfl) (fun q65 => ?_)
  refine a_widen (k + 2) (n + 44) (Nat.le_refl _) (Nat.le_refl _) ?_
  refine a_aload_n dL_law_283 rfl 2 rfl ?_
  refine a_aload_n dL_law_284 rfl 0 rfl ?_
  refine a_iload_n dL_law_285 rfl 3 rfl ?_
  refine a_iconst (v := 1) dL_law_286 (by decide) ?_
  refine a_iadd dL_law_287 ?_
  refine a_iald dL_law_288 (fun v66 => ?_)
  refine a_aload_n dL_law_289 rfl 0 rfl ?_
  refine a_iload_n dL_law_290 rfl 3 rfl ?_
  refine a_iconst (v := 2) dL_law_291 (by decide) ?_
  refine a_iadd dL_law_292 ?_
  refine a_iald dL_law_293 (fun v67 => ?_)
  refine a_aload_n dL_law_294 rfl 0 rfl ?_
  refine a_iload_n dL_law_295 rfl 3 rfl ?_
  refine a_iconst (v := 3) dL_law_296 (by decide) ?_
  refine a_iadd dL_law_297 ?_
  refine a_iald dL_law_298 (fun v68 => ?_)
  refine a_cV_Si (r := x2) (ci := 13) (as := [.int v66, .int v67, .int v68]) (st := [.int q65.1]) dL_law_299 (c_X12_gauge l g q65.2 x2 v66 v67 v68) rfl km_X12_gauge (hm_X12_gauge) rfl (by decide) rfl (fun _ ee => g_X12_gauge ee) w_methodLink_RainCoverLaw_17 w_instanceMethod_RainCoverModel_gauge__III_I w_selects_RainCoverModel_RainCoverModel_gauge__III_I_RainCoverModel_gauge__III_I ⟨⟨by decide, by decide⟩, ⟨by show (k + 2) + 0 ≤ 600000; omega, by show (n + 44) + 0 ≤ 7302250; omega⟩⟩ (Nat.le_of_ble_eq_true rfl) (fun q69 => ?_)
  refine a_icmp_eq 2505 dL_law_302 (by decide) (fun c70 => ?_) (fun c70 => ?_)
  · refine a_widen (k + 7) (n + 100) (by omega) (by omega) ?_
    exact t_L_law_b2505 h0 N k n hk hn K18 hK18 q69.2 x0 x1 x2 x3
  · refine a_iconst (v := 0) dL_law_305 (by decide) ?_
    exact a_zret dL_law_306 rfl (Or.inl rfl) rfl (by show (k + 2) ≤ 600000; omega) (by show (n + 44) ≤ 7302250; omega)
set_option maxRecDepth 100000 in
set_option maxHeartbeats 40000000 in
theorem t_L_law_b307 (h0 : AH) (N : Nat) (k n : Nat) (hk : k + 10 ≤ 600000) (hn : n + 120 ≤ 7302250) (K18 : AH → Nat → Nat → Nat → Int32 → Option (Int32 × AH)) (hK18 : ∀ (z : AH) (z0 : Nat) (z1 : Nat) (z2 : Nat) (z3 : Int32) , AO l g M_L_law true h0 18 [(0, .ref z0), (1, .ref z1), (2, .ref z2), (3, .int z3)] [] z (k + 7) (n + 100) rSi (K18 z z0 z1 z2 z3)) (h : AH) (x0 : Nat) (x1 : Nat) (x2 : Nat) (x3 : Int32) : AO l g M_L_law true h0 307 [(0, .ref x0), (1, .ref x1), (2, .ref x2), (3, .int x3)] [] h k n rSi (f_L_law_b307 N K18 h x0 x1 x2 x3) := by
  unfold f_L_law_b307
  refine a_aload_n dL_law_307 rfl 1 rfl ?_
  refine a_aload_n dL_law_308 rfl 0 rfl ?_
  refine a_iload_n dL_law_309 rfl 3 rfl ?_
  refine a_iconst (v := 1) dL_law_310 (by decide) ?_
  refine a_iadd dL_law_311 ?_
  refine a_iald dL_law_312 (fun v71 => ?_)
  refine a_aload_n dL_law_313 rfl 0 rfl ?_
  refine a_iload_n dL_law_314 rfl 3 rfl ?_
  refine a_iconst (v := 2) dL_law_315 (by decide) ?_
  refine a_iadd dL_law_316 ?_
  refine a_iald dL_law_317 (fun v72 => ?_)
  refine a_cV_Si (r := x1) (ci := 12) (as := [.int v71, .int v72]) (st := []) dL_law_318 (c_X11_down l g h x1 v71 v72) rfl km_X11_down (hm_X11_down) rfl (by decide) rfl (fun _ ee => g_X11_down ee) w_methodLink_RainCoverLaw_18 w_instanceMethod_RainCover_down__II_I w_selects_RainCover_RainCover_down__II_I_RainCover_down__II_I ⟨⟨by decide, by decide⟩, ⟨by show k + 0 ≤ 600000; omega, by show n + 0 ≤ 7302250; omega⟩⟩ (Nat.le_of_ble_eq_true rfl) (fun q73 => ?_)
  refine a_aload_n dL_law_321 rfl 2 rfl ?_
  refine a_aload_n dL_law_322 rfl 0 rfl ?_
  refine a_iload_n dL_law_323 rfl 3 rfl ?_
  refine a_iconst (v := 1) dL_law_324 (by decide) ?_
  refine a_iadd dL_law_325 ?_
  refine a_iald dL_law_326 (fun v74 => ?_)
  refine a_aload_n dL_law_327 rfl 0 rfl ?_
  refine a_iload_n dL_law_328 rfl 3 rfl ?_
  refine a_iconst (v := 2) dL_law_329 (by decide) ?_
  refine a_iadd dL_law_330 ?_
  refine a_iald dL_law_331 (fun v75 => ?_)
  refine a_cV_Si (r := x2) (ci := 13) (as := [.int v74, .int v75]) (st := [.int q73.1]) dL_law_332 (c_X12_down l g q73.2 x2 v74 v75) rfl km_X12_down (hm_X12_down) rfl (by decide) rfl (fun _ ee => g_X12_down ee) w_methodLink_RainCoverLaw_22 w_instanceMethod_RainCoverModel_down__II_I w_selects_RainCoverModel_RainCoverModel_down__II_I_RainCoverModel_down__II_I ⟨⟨by decide, by decide⟩, ⟨by show k + 0 ≤ 600000; omega, by show n + 0 ≤ 7302250; omega⟩⟩ (Nat.le_of_ble_eq_true rfl) (fun q76 => ?_)
  refine a_icmp_eq 2505 dL_law_335 (by decide) (fun c77 => ?_) (fun c77 => ?_)
  · refine a_widen (k + 7) (n + 100) (by omega) (by omega) ?_
    exact t_L_law_b2505 h0 N k n hk hn K18 hK18 q76.2 x0 x1 x2 x3
  · refine a_iconst (v := 0) dL_law_338 (by decide) ?_
    exact a_zret dL_law_339 rfl (Or.inl rfl) rfl (by show k ≤ 600000; omega) (by show n ≤ 7302250; omega)
set_option maxRecDepth 100000 in
set_option maxHeartbeats 40000000 in
theorem t_L_law_b340 (h0 : AH) (N : Nat) (k n : Nat) (hk : k + 10 ≤ 600000) (hn : n + 120 ≤ 7302250) (K18 : AH → Nat → Nat → Nat → Int32 → Option (Int32 × AH)) (hK18 : ∀ (z : AH) (z0 : Nat) (z1 : Nat) (z2 : Nat) (z3 : Int32) , AO l g M_L_law true h0 18 [(0, .ref z0), (1, .ref z1), (2, .ref z2), (3, .int z3)] [] z (k + 7) (n + 100) rSi (K18 z z0 z1 z2 z3)) (h : AH) (x0 : Nat) (x1 : Nat) (x2 : Nat) (x3 : Int32) : AO l g M_L_law true h0 340 [(0, .ref x0), (1, .ref x1), (2, .ref x2), (3, .int x3)] [] h k n rSi (f_L_law_b340 N K18 h x0 x1 x2 x3) := by
  unfold f_L_law_b340
  refine a_aload_n dL_law_340 rfl 1 rfl ?_
  refine a_aload_n dL_law_341 rfl 0 rfl ?_
  refine a_iload_n dL_law_342 rfl 3 rfl ?_
  refine a_iconst (v := 1) dL_law_343 (by decide) ?_
  refine a_iadd dL_law_344 ?_
  refine a_iald dL_law_345 (fun v78 => ?_)
  refine a_aload_n dL_law_346 rfl 0 rfl ?_
  refine a_iload_n dL_law_347 rfl 3 rfl ?_
  refine a_iconst (v := 2) dL_law_348 (by decide) ?_
  refine a_iadd dL_law_349 ?_
  refine a_iald dL_law_350 (fun v79 => ?_)
  refine a_cV_Si (r := x1) (ci := 12) (as := [.int v78, .int v79]) (st := []) dL_law_351 (c_X11_law l g h x1 v78 v79) rfl km_X11_law (hm_X11_law) rfl (by decide) rfl (fun _ ee => g_X11_law ee) w_methodLink_RainCoverLaw_23 w_instanceMethod_RainCover_law__II_I w_selects_RainCover_RainCover_law__II_I_RainCover_law__II_I ⟨⟨by decide, by decide⟩, ⟨by show k + 0 ≤ 600000; omega, by show n + 0 ≤ 7302250; omega⟩⟩ (Nat.le_of_ble_eq_true rfl) (fun q80 => ?_)
  refine a_aload_n dL_law_354 rfl 2 rfl ?_
  refine a_aload_n dL_law_355 rfl 0 rfl ?_
  refine a_iload_n dL_law_356 rfl 3 rfl ?_
  refine a_iconst (v := 1) dL_law_357 (by decide) ?_
  refine a_iadd dL_law_358 ?_
  refine a_iald dL_law_359 (fun v81 => ?_)
  refine a_aload_n dL_law_360 rfl 0 rfl ?_
  refine a_iload_n dL_law_361 rfl 3 rfl ?_
  refine a_iconst (v := 2) dL_law_362 (by decide) ?_
  refine a_iadd dL_law_363 ?_
  refine a_iald dL_law_364 (fun v82 => ?_)
  refine a_cV_Si (r := x2) (ci := 13) (as := [.int v81, .int v82]) (st := [.int q80.1]) dL_law_365 (c_X12_law l g q80.2 x2 v81 v82) rfl km_X12_law (hm_X12_law) rfl (by decide) rfl (fun _ ee => g_X12_law ee) w_methodLink_RainCoverLaw_26 w_instanceMethod_RainCoverModel_law__II_I w_selects_RainCoverModel_RainCoverModel_law__II_I_RainCoverModel_law__II_I ⟨⟨by decide, by decide⟩, ⟨by show k + 0 ≤ 600000; omega, by show n + 0 ≤ 7302250; omega⟩⟩ (Nat.le_of_ble_eq_true rfl) (fun q83 => ?_)
  refine a_icmp_eq 2505 dL_law_368 (by decide) (fun c84 => ?_) (fun c84 => ?_)
  · refine a_widen (k + 7) (n + 100) (by omega) (by omega) ?_
    exact t_L_law_b2505 h0 N k n hk hn K18 hK18 q83.2 x0 x1 x2 x3
  · refine a_iconst (v := 0) dL_law_371 (by decide) ?_
    exact a_zret dL_law_372 rfl (Or.inl rfl) rfl (by show k ≤ 600000; omega) (by show n ≤ 7302250; omega)
set_option maxRecDepth 100000 in
set_option maxHeartbeats 40000000 in
theorem t_L_law_b373 (h0 : AH) (N : Nat) (k n : Nat) (hk : k + 10 ≤ 600000) (hn : n + 120 ≤ 7302250) (K18 : AH → Nat → Nat → Nat → Int32 → Option (Int32 × AH)) (hK18 : ∀ (z : AH) (z0 : Nat) (z1 : Nat) (z2 : Nat) (z3 : Int32) , AO l g M_L_law true h0 18 [(0, .ref z0), (1, .ref z1), (2, .ref z2), (3, .int z3)] [] z (k + 7) (n + 100) rSi (K18 z z0 z1 z2 z3)) (h : AH) (x0 : Nat) (x1 : Nat) (x2 : Nat) (x3 : Int32) : AO l g M_L_law true h0 373 [(0, .ref x0), (1, .ref x1), (2, .ref x2), (3, .int x3)] [] h k n rSi (f_L_law_b373 N K18 h x0 x1 x2 x3) := by
  unfold f_L_law_b373
  refine a_aload_n dL_law_373 rfl 1 rfl ?_
  refine a_aload_n dL_law_374 rfl 0 rfl ?_
  refine a_iload_n dL_law_375 rfl 3 rfl ?_
  refine a_iconst (v := 1) dL_law_376 (by decide) ?_
  refine a_iadd dL_law_377 ?_
  refine a_iald dL_law_378 (fun v85 => ?_)
  refine a_aload_n dL_law_379 rfl 0 rfl ?_
  refine a_iload_n dL_law_380 rfl 3 rfl ?_
  refine a_iconst (v := 2) dL_law_381 (by decide) ?_
  refine a_iadd dL_law_382 ?_
  refine a_iald dL_law_383 (fun v86 => ?_)
  refine a_aload_n dL_law_384 rfl 0 rfl ?_
  refine a_iload_n dL_law_385 rfl 3 rfl ?_
  refine a_iconst (v := 3) dL_law_386 (by decide) ?_
  refine a_iadd dL_law_387 ?_
  refine a_iald dL_law_388 (fun v87 => ?_)
  refine a_aload_n dL_law_389 rfl 0 rfl ?_
  refine a_iload_n dL_law_390 rfl 3 rfl ?_
  refine a_iconst (v := 4) dL_law_391 (by decide) ?_
  refine a_iadd dL_law_392 ?_
  refine a_iald dL_law_393 (fun v88 => ?_)
  refine a_cV_Si (r := x1) (ci := 12) (as := [.int v85, .int v86, .int v87, .int v88]) (st := []) dL_law_394 (c_X11_rain l g h x1 v85 v86 v87 v88) rfl km_X11_rain (hm_X11_rain) rfl (by decide) rfl (fun _ ee => g_X11_rain ee) w_methodLink_RainCoverLaw_27 w_instanceMethod_RainCover_rain__IIII_I w_selects_RainCover_RainCover_rain__IIII_I_RainCover_rain__IIII_I ⟨⟨by decide, by decide⟩, ⟨by show k + 0 ≤ 600000; omega, by show n + 0 ≤ 7302250; omega⟩⟩ (Nat.le_of_ble_eq_true rfl) (fun q89 => ?_)
  refine a_aload_n dL_law_397 rfl 2 rfl ?_
  refine a_aload_n dL_law_398 rfl 0 rfl ?_
  refine a_iload_n dL_law_399 rfl 3 rfl ?_
  refine a_iconst (v := 1) dL_law_400 (by decide) ?_
  refine a_iadd dL_law_401 ?_
  refine a_iald dL_law_402 (fun v90 => ?_)
  refine a_aload_n dL_law_403 rfl 0 rfl ?_
  refine a_iload_n dL_law_404 rfl 3 rfl ?_
  refine a_iconst (v := 2) dL_law_405 (by decide) ?_
  refine a_iadd dL_law_406 ?_
  refine a_iald dL_law_407 (fun v91 => ?_)
  refine a_aload_n dL_law_408 rfl 0 rfl ?_
  refine a_iload_n dL_law_409 rfl 3 rfl ?_
  refine a_iconst (v := 3) dL_law_410 (by decide) ?_
  refine a_iadd dL_law_411 ?_
  refine a_iald dL_law_412 (fun v92 => ?_)
  refine a_aload_n dL_law_413 rfl 0 rfl ?_
  refine a_iload_n dL_law_414 rfl 3 rfl ?_
  refine a_iconst (v := 4) dL_law_415 (by decide) ?_
  refine a_iadd dL_law_416 ?_
  refine a_iald dL_law_417 (fun v93 => ?_)
  refine a_cV_Si (r := x2) (ci := 13) (as := [.int v90, .int v91, .int v92, .int v93]) (st := [.int q89.1]) dL_law_418 (c_X12_rain l g q89.2 x2 v90 v91 v92 v93) rfl km_X12_rain (hm_X12_rain) rfl (by decide) rfl (fun _ ee => g_X12_rain ee) w_methodLink_RainCoverLaw_31 w_instanceMethod_RainCoverModel_rain__IIII_I w_selects_RainCoverModel_RainCoverModel_rain__IIII_I_RainCoverModel_rain__IIII_I ⟨⟨by decide, by decide⟩, ⟨by show k + 0 ≤ 600000; omega, by show n + 0 ≤ 7302250; omega⟩⟩ (Nat.le_of_ble_eq_true rfl) (fun q94 => ?_)
  refine a_icmp_eq 2505 dL_law_421 (by decide) (fun c95 => ?_) (fun c95 => ?_)
  · refine a_widen (k + 7) (n + 100) (by omega) (by omega) ?_
    exact t_L_law_b2505 h0 N k n hk hn K18 hK18 q94.2 x0 x1 x2 x3
  · refine a_iconst (v := 0) dL_law_424 (by decide) ?_
    exact a_zret dL_law_425 rfl (Or.inl rfl) rfl (by show k ≤ 600000; omega) (by show n ≤ 7302250; omega)
set_option maxRecDepth 100000 in
set_option maxHeartbeats 40000000 in
theorem t_L_law_b426 (h0 : AH) (N : Nat) (k n : Nat) (hk : k + 10 ≤ 600000) (hn : n + 120 ≤ 7302250) (K18 : AH → Nat → Nat → Nat → Int32 → Option (Int32 × AH)) (hK18 : ∀ (z : AH) (z0 : Nat) (z1 : Nat) (z2 : Nat) (z3 : Int32) , AO l g M_L_law true h0 18 [(0, .ref z0), (1, .ref z1), (2, .ref z2), (3, .int z3)] [] z (k + 7) (n + 100) rSi (K18 z z0 z1 z2 z3)) (h : AH) (x0 : Nat) (x1 : Nat) (x2 : Nat) (x3 : Int32) : AO l g M_L_law true h0 426 [(0, .ref x0), (1, .ref x1), (2, .ref x2), (3, .int x3)] [] h k n rSi (f_L_law_b426 N K18 h x0 x1 x2 x3) := by
  unfold f_L_law_b426
  refine a_aload_n dL_law_426 rfl 1 rfl ?_
  refine a_aload_n dL_law_427 rfl 0 rfl ?_
  refine a_iload_n dL_law_428 rfl 3 rfl ?_
  refine a_iconst (v := 1) dL_law_429 (by decide) ?_
  refine a_iadd dL_law_430 ?_
  refine a_iald dL_law_431 (fun v96 => ?_)
  refine a_aload_n dL_law_432 rfl 0 rfl ?_
  refine a_iload_n dL_law_433 rfl 3 rfl ?_
  refine a_iconst (v := 2) dL_law_434 (by decide) ?_
  refine a_iadd dL_law_435 ?_
  refine a_iald dL_law_436 (fun v97 => ?_)
  refine a_aload_n dL_law_437 rfl 0 rfl ?_
  refine a_iload_n dL_law_438 rfl 3 rfl ?_
  refine a_iconst (v := 3) dL_law_439 (by decide) ?_
  refine a_iadd dL_law_440 ?_
  refine a_iald dL_law_441 (fun v98 => ?_)
  refine a_aload_n dL_law_442 rfl 0 rfl ?_
  refine a_iload_n dL_law_443 rfl 3 rfl ?_
  refine a_iconst (v := 4) dL_law_444 (by decide) ?_
  refine a_iadd dL_law_445 ?_
  refine a_iald dL_law_446 (fun v99 => ?_)
  refine a_cV_Si (r := x1) (ci := 12) (as := [.int v96, .int v97, .int v98, .int v99]) (st := []) dL_law_447 (c_X11_green l g h x1 v96 v97 v98 v99) rfl km_X11_green (hm_X11_green) rfl (by decide) rfl (fun _ ee => g_X11_green ee) w_methodLink_RainCoverLaw_32 w_instanceMethod_RainCover_green__IIII_I w_selects_RainCover_RainCover_green__IIII_I_RainCover_green__IIII_I ⟨⟨by decide, by decide⟩, ⟨by show k + 0 ≤ 600000; omega, by show n + 0 ≤ 7302250; omega⟩⟩ (Nat.le_of_ble_eq_true rfl) (fun q100 => ?_)
  refine a_aload_n dL_law_450 rfl 2 rfl ?_
  refine a_aload_n dL_law_451 rfl 0 rfl ?_
  refine a_iload_n dL_law_452 rfl 3 rfl ?_
  refine a_iconst (v := 1) dL_law_453 (by decide) ?_
  refine a_iadd dL_law_454 ?_
  refine a_iald dL_law_455 (fun v101 => ?_)
  refine a_aload_n dL_law_456 rfl 0 rfl ?_
  refine a_iload_n dL_law_457 rfl 3 rfl ?_
  refine a_iconst (v := 2) dL_law_458 (by decide) ?_
  refine a_iadd dL_law_459 ?_
  refine a_iald dL_law_460 (fun v102 => ?_)
  refine a_aload_n dL_law_461 rfl 0 rfl ?_
  refine a_iload_n dL_law_462 rfl 3 rfl ?_
  refine a_iconst (v := 3) dL_law_463 (by decide) ?_
  refine a_iadd dL_law_464 ?_
  refine a_iald dL_law_465 (fun v103 => ?_)
  refine a_aload_n dL_law_466 rfl 0 rfl ?_
  refine a_iload_n dL_law_467 rfl 3 rfl ?_
  refine a_iconst (v := 4) dL_law_468 (by decide) ?_
  refine a_iadd dL_law_469 ?_
  refine a_iald dL_law_470 (fun v104 => ?_)
  refine a_cV_Si (r := x2) (ci := 13) (as := [.int v101, .int v102, .int v103, .int v104]) (st := [.int q100.1]) dL_law_471 (c_X12_green l g q100.2 x2 v101 v102 v103 v104) rfl km_X12_green (hm_X12_green) rfl (by decide) rfl (fun _ ee => g_X12_green ee) w_methodLink_RainCoverLaw_35 w_instanceMethod_RainCoverModel_green__IIII_I w_selects_RainCoverModel_RainCoverModel_green__IIII_I_RainCoverModel_green__IIII_I ⟨⟨by decide, by decide⟩, ⟨by show k + 0 ≤ 600000; omega, by show n + 0 ≤ 7302250; omega⟩⟩ (Nat.le_of_ble_eq_true rfl) (fun q105 => ?_)
  refine a_icmp_eq 2505 dL_law_474 (by decide) (fun c106 => ?_) (fun c106 => ?_)
  · refine a_widen (k + 7) (n + 100) (by omega) (by omega) ?_
    exact t_L_law_b2505 h0 N k n hk hn K18 hK18 q105.2 x0 x1 x2 x3
  · refine a_iconst (v := 0) dL_law_477 (by decide) ?_
    exact a_zret dL_law_478 rfl (Or.inl rfl) rfl (by show k ≤ 600000; omega) (by show n ≤ 7302250; omega)
set_option maxRecDepth 100000 in
set_option maxHeartbeats 40000000 in
theorem t_L_law_b479 (h0 : AH) (N : Nat) (k n : Nat) (hk : k + 10 ≤ 600000) (hn : n + 120 ≤ 7302250) (K18 : AH → Nat → Nat → Nat → Int32 → Option (Int32 × AH)) (hK18 : ∀ (z : AH) (z0 : Nat) (z1 : Nat) (z2 : Nat) (z3 : Int32) , AO l g M_L_law true h0 18 [(0, .ref z0), (1, .ref z1), (2, .ref z2), (3, .int z3)] [] z (k + 7) (n + 100) rSi (K18 z z0 z1 z2 z3)) (h : AH) (x0 : Nat) (x1 : Nat) (x2 : Nat) (x3 : Int32) : AO l g M_L_law true h0 479 [(0, .ref x0), (1, .ref x1), (2, .ref x2), (3, .int x3)] [] h k n rSi (f_L_law_b479 N K18 h x0 x1 x2 x3) := by
  unfold f_L_law_b479
  refine a_aload_n dL_law_479 rfl 1 rfl ?_
  refine a_aload_n dL_law_480 rfl 0 rfl ?_
  refine a_iload_n dL_law_481 rfl 3 rfl ?_
  refine a_iconst (v := 1) dL_law_482 (by decide) ?_
  refine a_iadd dL_law_483 ?_
  refine a_iald dL_law_484 (fun v107 => ?_)
  refine a_aload_n dL_law_485 rfl 0 rfl ?_
  refine a_iload_n dL_law_486 rfl 3 rfl ?_
  refine a_iconst (v := 2) dL_law_487 (by decide) ?_
  refine a_iadd dL_law_488 ?_
  refine a_iald dL_law_489 (fun v108 => ?_)
  refine a_aload_n dL_law_490 rfl 0 rfl ?_
  refine a_iload_n dL_law_491 rfl 3 rfl ?_
  refine a_iconst (v := 3) dL_law_492 (by decide) ?_
  refine a_iadd dL_law_493 ?_
  refine a_iald dL_law_494 (fun v109 => ?_)
  refine a_aload_n dL_law_495 rfl 0 rfl ?_
  refine a_iload_n dL_law_496 rfl 3 rfl ?_
  refine a_iconst (v := 4) dL_law_497 (by decide) ?_
  refine a_iadd dL_law_498 ?_
  refine a_iald dL_law_499 (fun v110 => ?_)
  refine a_cV_Pi (r := x1) (ci := 12) (as := [.int v107, .int v108, .int v109, .int v110]) (st := []) dL_law_500 (c_X11_seen l g h N x1 v107 v108 v109 v110) rfl km_X11_seen (hm_X11_seen) rfl (by decide) rfl (fun _ ee => g_X11_seen ee) w_methodLink_RainCoverLaw_36 w_instanceMethod_RainCover_seen__IIII_I w_selects_RainCover_RainCover_seen__IIII_I_RainCover_seen__IIII_I ⟨⟨by decide, by decide⟩, ⟨by show k + 0 ≤ 600000; omega, by show n + 0 ≤ 7302250; omega⟩⟩ (Nat.le_of_ble_eq_true rfl) (fun v111 => ?_)
  refine a_aload_n dL_law_503 rfl 2 rfl ?_
  refine a_aload_n dL_law_504 rfl 0 rfl ?_
  refine a_iload_n dL_law_505 rfl 3 rfl ?_
  refine a_iconst (v := 1) dL_law_506 (by decide) ?_
  refine a_iadd dL_law_507 ?_
  refine a_iald dL_law_508 (fun v112 => ?_)
  refine a_aload_n dL_law_509 rfl 0 rfl ?_
  refine a_iload_n dL_law_510 rfl 3 rfl ?_
  refine a_iconst (v := 2) dL_law_511 (by decide) ?_
  refine a_iadd dL_law_512 ?_
  refine a_iald dL_law_513 (fun v113 => ?_)
  refine a_aload_n dL_law_514 rfl 0 rfl ?_
  refine a_iload_n dL_law_515 rfl 3 rfl ?_
  refine a_iconst (v := 3) dL_law_516 (by decide) ?_
  refine a_iadd dL_law_517 ?_
  refine a_iald dL_law_518 (fun v114 => ?_)
  refine a_aload_n dL_law_519 rfl 0 rfl ?_
  refine a_iload_n dL_law_520 rfl 3 rfl ?_
  refine a_iconst (v := 4) dL_law_521 (by decide) ?_
  refine a_iadd dL_law_522 ?_
  refine a_iald dL_law_523 (fun v115 => ?_)
  refine a_cV_Si (r := x2) (ci := 13) (as := [.int v112, .int v113, .int v114, .int v115]) (st := [.int v111]) dL_law_524 (c_X12_seen l g h N x2 v112 v113 v114 v115) rfl km_X12_seen (hm_X12_seen) rfl (by decide) rfl (fun _ ee => g_X12_seen ee) w_methodLink_RainCoverLaw_39 w_instanceMethod_RainCoverModel_seen__IIII_I w_selects_RainCoverModel_RainCoverModel_seen__IIII_I_RainCoverModel_seen__IIII_I ⟨⟨by decide, by decide⟩, ⟨by show k + 0 ≤ 600000; omega, by show n + 0 ≤ 7302250; omega⟩⟩ (Nat.le_of_ble_eq_true rfl) (fun q116 => ?_)
  refine a_icmp_eq 2505 dL_law_527 (by decide) (fun c117 => ?_) (fun c117 => ?_)
  · refine a_widen (k + 7) (n + 100) (by omega) (by omega) ?_
    exact t_L_law_b2505 h0 N k n hk hn K18 hK18 q116.2 x0 x1 x2 x3
  · refine a_iconst (v := 0) dL_law_530 (by decide) ?_
    exact a_zret dL_law_531 rfl (Or.inl rfl) rfl (by show k ≤ 600000; omega) (by show n ≤ 7302250; omega)
set_option maxRecDepth 100000 in
set_option maxHeartbeats 40000000 in
theorem t_L_law_b532 (h0 : AH) (N : Nat) (k n : Nat) (hk : k + 10 ≤ 600000) (hn : n + 120 ≤ 7302250) (K18 : AH → Nat → Nat → Nat → Int32 → Option (Int32 × AH)) (hK18 : ∀ (z : AH) (z0 : Nat) (z1 : Nat) (z2 : Nat) (z3 : Int32) , AO l g M_L_law true h0 18 [(0, .ref z0), (1, .ref z1), (2, .ref z2), (3, .int z3)] [] z (k + 7) (n + 100) rSi (K18 z z0 z1 z2 z3)) (h : AH) (x0 : Nat) (x1 : Nat) (x2 : Nat) (x3 : Int32) : AO l g M_L_law true h0 532 [(0, .ref x0), (1, .ref x1), (2, .ref x2), (3, .int x3)] [] h k n rSi (f_L_law_b532 N K18 h x0 x1 x2 x3) := by
  unfold f_L_law_b532
  refine a_aload_n dL_law_532 rfl 1 rfl ?_
  refine a_aload_n dL_law_533 rfl 0 rfl ?_
  refine a_iload_n dL_law_534 rfl 3 rfl ?_
  refine a_iconst (v := 1) dL_law_535 (by decide) ?_
  refine a_iadd dL_law_536 ?_
  refine a_iald dL_law_537 (fun v118 => ?_)
  refine a_aload_n dL_law_538 rfl 0 rfl ?_
  refine a_iload_n dL_law_539 rfl 3 rfl ?_
  refine a_iconst (v := 2) dL_law_540 (by decide) ?_
  refine a_iadd dL_law_541 ?_
  refine a_iald dL_law_542 (fun v119 => ?_)
  refine a_aload_n dL_law_543 rfl 0 rfl ?_
  refine a_iload_n dL_law_544 rfl 3 rfl ?_
  refine a_iconst (v := 3) dL_law_545 (by decide) ?_
  refine a_iadd dL_law_546 ?_
  refine a_iald dL_law_547 (fun v120 => ?_)
  refine a_aload_n dL_law_548 rfl 0 rfl ?_
  refine a_iload_n dL_law_549 rfl 3 rfl ?_
  refine a_iconst (v := 4) dL_law_550 (by decide) ?_
  refine a_iadd dL_law_551 ?_
  refine a_iald dL_law_552 (fun v121 => ?_)
  refine a_aload_n dL_law_553 rfl 0 rfl ?_
  refine a_iload_n dL_law_554 rfl 3 rfl ?_
  refine a_iconst (v := 5) dL_law_555 (by decide) ?_
  refine a_iadd dL_law_556 ?_
  refine a_iald dL_law_557 (fun v122 => ?_)
  refine a_cV_Si (r := x1) (ci := 12) (as := [.int v118, .int v119, .int v120, .int v121, .int v122]) (st := []) dL_law_558 (c_X11_lay l g h N x1 v118 v119 v120 v121 v122) rfl km_X11_lay (hm_X11_lay) rfl (by decide) rfl (fun _ ee => g_X11_lay ee) w_methodLink_RainCoverLaw_40 w_instanceMethod_RainCover_lay__IIIII_I w_selects_RainCover_RainCover_lay__IIIII_I_RainCover_lay__IIIII_I ⟨⟨by decide, by decide⟩, ⟨by show k + 0 ≤ 600000; omega, by show n + 0 ≤ 7302250; omega⟩⟩ (Nat.le_of_ble_eq_true rfl) (fun q123 => ?_)
  refine a_aload_n dL_law_561 rfl 2 rfl ?_
  refine a_aload_n dL_law_562 rfl 0 rfl ?_
  refine a_iload_n dL_law_563 rfl 3 rfl ?_
  refine a_iconst (v := 1) dL_law_564 (by decide) ?_
  refine a_iadd dL_law_565 ?_
  refine a_iald dL_law_566 (fun v124 => ?_)
  refine a_aload_n dL_law_567 rfl 0 rfl ?_
  refine a_iload_n dL_law_568 rfl 3 rfl ?_
  refine a_iconst (v := 2) dL_law_569 (by decide) ?_
  refine a_iadd dL_law_570 ?_
  refine a_iald dL_law_571 (fun v125 => ?_)
  refine a_aload_n dL_law_572 rfl 0 rfl ?_
  refine a_iload_n dL_law_573 rfl 3 rfl ?_
  refine a_iconst (v := 3) dL_law_574 (by decide) ?_
  refine a_iadd dL_law_575 ?_
  refine a_iald dL_law_576 (fun v126 => ?_)
  refine a_aload_n dL_law_577 rfl 0 rfl ?_
  refine a_iload_n dL_law_578 rfl 3 rfl ?_
  refine a_iconst (v := 4) dL_law_579 (by decide) ?_
  refine a_iadd dL_law_580 ?_
  refine a_iald dL_law_581 (fun v127 => ?_)
  refine a_aload_n dL_law_582 rfl 0 rfl ?_
  refine a_iload_n dL_law_583 rfl 3 rfl ?_
  refine a_iconst (v := 5) dL_law_584 (by decide) ?_
  refine a_iadd dL_law_585 ?_
  refine a_iald dL_law_586 (fun v128 => ?_)
  refine a_cV_Si (r := x2) (ci := 13) (as := [.int v124, .int v125, .int v126, .int v127, .int v128]) (st := [.int q123.1]) dL_law_587 (c_X12_lay l g q123.2 N x2 v124 v125 v126 v127 v128) rfl km_X12_lay (hm_X12_lay) rfl (by decide) rfl (fun _ ee => g_X12_lay ee) w_methodLink_RainCoverLaw_44 w_instanceMethod_RainCoverModel_lay__IIIII_I w_selects_RainCoverModel_RainCoverModel_lay__IIIII_I_RainCoverModel_lay__IIIII_I ⟨⟨by decide, by decide⟩, ⟨by show k + 0 ≤ 600000; omega, by show n + 0 ≤ 7302250; omega⟩⟩ (Nat.le_of_ble_eq_true rfl) (fun q129 => ?_)
  refine a_icmp_eq 2505 dL_law_590 (by decide) (fun c130 => ?_) (fun c130 => ?_)
  · refine a_widen (k + 7) (n + 100) (by omega) (by omega) ?_
    exact t_L_law_b2505 h0 N k n hk hn K18 hK18 q129.2 x0 x1 x2 x3
  · refine a_iconst (v := 0) dL_law_593 (by decide) ?_
    exact a_zret dL_law_594 rfl (Or.inl rfl) rfl (by show k ≤ 600000; omega) (by show n ≤ 7302250; omega)
set_option maxRecDepth 100000 in
set_option maxHeartbeats 40000000 in
theorem t_L_law_b595 (h0 : AH) (N : Nat) (k n : Nat) (hk : k + 10 ≤ 600000) (hn : n + 120 ≤ 7302250) (K18 : AH → Nat → Nat → Nat → Int32 → Option (Int32 × AH)) (hK18 : ∀ (z : AH) (z0 : Nat) (z1 : Nat) (z2 : Nat) (z3 : Int32) , AO l g M_L_law true h0 18 [(0, .ref z0), (1, .ref z1), (2, .ref z2), (3, .int z3)] [] z (k + 7) (n + 100) rSi (K18 z z0 z1 z2 z3)) (h : AH) (x0 : Nat) (x1 : Nat) (x2 : Nat) (x3 : Int32) : AO l g M_L_law true h0 595 [(0, .ref x0), (1, .ref x1), (2, .ref x2), (3, .int x3)] [] h k n rSi (f_L_law_b595 N K18 h x0 x1 x2 x3) := by
  unfold f_L_law_b595
  refine a_aload_n dL_law_595 rfl 1 rfl ?_
  refine a_aload_n dL_law_596 rfl 0 rfl ?_
  refine a_iload_n dL_law_597 rfl 3 rfl ?_
  refine a_iconst (v := 1) dL_law_598 (by decide) ?_
  refine a_iadd dL_law_599 ?_
  refine a_iald dL_law_600 (fun v131 => ?_)
  refine a_aload_n dL_law_601 rfl 0 rfl ?_
  refine a_iload_n dL_law_602 rfl 3 rfl ?_
  refine a_iconst (v := 2) dL_law_603 (by decide) ?_
  refine a_iadd dL_law_604 ?_
  refine a_iald dL_law_605 (fun v132 => ?_)
  refine a_aload_n dL_law_606 rfl 0 rfl ?_
  refine a_iload_n dL_law_607 rfl 3 rfl ?_
  refine a_iconst (v := 3) dL_law_608 (by decide) ?_
  refine a_iadd dL_law_609 ?_
  refine a_iald dL_law_610 (fun v133 => ?_)
  refine a_aload_n dL_law_611 rfl 0 rfl ?_
  refine a_iload_n dL_law_612 rfl 3 rfl ?_
  refine a_iconst (v := 4) dL_law_613 (by decide) ?_
  refine a_iadd dL_law_614 ?_
  refine a_iald dL_law_615 (fun v134 => ?_)
  refine a_cV_Pi (r := x1) (ci := 12) (as := [.int v131, .int v132, .int v133, .int v134]) (st := []) dL_law_616 (c_X11_told l g h N x1 v131 v132 v133 v134) rfl km_X11_told (hm_X11_told) rfl (by decide) rfl (fun _ ee => g_X11_told ee) w_methodLink_RainCoverLaw_45 w_instanceMethod_RainCover_told__IIII_I w_selects_RainCover_RainCover_told__IIII_I_RainCover_told__IIII_I ⟨⟨by decide, by decide⟩, ⟨by show k + 0 ≤ 600000; omega, by show n + 0 ≤ 7302250; omega⟩⟩ (Nat.le_of_ble_eq_true rfl) (fun v135 => ?_)
  refine a_aload_n dL_law_619 rfl 2 rfl ?_
  refine a_aload_n dL_law_620 rfl 0 rfl ?_
  refine a_iload_n dL_law_621 rfl 3 rfl ?_
  refine a_iconst (v := 1) dL_law_622 (by decide) ?_
  refine a_iadd dL_law_623 ?_
  refine a_iald dL_law_624 (fun v136 => ?_)
  refine a_aload_n dL_law_625 rfl 0 rfl ?_
  refine a_iload_n dL_law_626 rfl 3 rfl ?_
  refine a_iconst (v := 2) dL_law_627 (by decide) ?_
  refine a_iadd dL_law_628 ?_
  refine a_iald dL_law_629 (fun v137 => ?_)
  refine a_aload_n dL_law_630 rfl 0 rfl ?_
  refine a_iload_n dL_law_631 rfl 3 rfl ?_
  refine a_iconst (v := 3) dL_law_632 (by decide) ?_
  refine a_iadd dL_law_633 ?_
  refine a_iald dL_law_634 (fun v138 => ?_)
  refine a_aload_n dL_law_635 rfl 0 rfl ?_
  refine a_iload_n dL_law_636 rfl 3 rfl ?_
  refine a_iconst (v := 4) dL_law_637 (by decide) ?_
  refine a_iadd dL_law_638 ?_
  refine a_iald dL_law_639 (fun v139 => ?_)
  refine a_cV_Si (r := x2) (ci := 13) (as := [.int v136, .int v137, .int v138, .int v139]) (st := [.int v135]) dL_law_640 (c_X12_told l g h N x2 v136 v137 v138 v139) rfl km_X12_told (hm_X12_told) rfl (by decide) rfl (fun _ ee => g_X12_told ee) w_methodLink_RainCoverLaw_48 w_instanceMethod_RainCoverModel_told__IIII_I w_selects_RainCoverModel_RainCoverModel_told__IIII_I_RainCoverModel_told__IIII_I ⟨⟨by decide, by decide⟩, ⟨by show k + 0 ≤ 600000; omega, by show n + 0 ≤ 7302250; omega⟩⟩ (Nat.le_of_ble_eq_true rfl) (fun q140 => ?_)
  refine a_icmp_eq 2505 dL_law_643 (by decide) (fun c141 => ?_) (fun c141 => ?_)
  · refine a_widen (k + 7) (n + 100) (by omega) (by omega) ?_
    exact t_L_law_b2505 h0 N k n hk hn K18 hK18 q140.2 x0 x1 x2 x3
  · refine a_iconst (v := 0) dL_law_646 (by decide) ?_
    exact a_zret dL_law_647 rfl (Or.inl rfl) rfl (by show k ≤ 600000; omega) (by show n ≤ 7302250; omega)
set_option maxRecDepth 100000 in
set_option maxHeartbeats 40000000 in
theorem t_L_law_b648 (h0 : AH) (N : Nat) (k n : Nat) (hk : k + 10 ≤ 600000) (hn : n + 120 ≤ 7302250) (K18 : AH → Nat → Nat → Nat → Int32 → Option (Int32 × AH)) (hK18 : ∀ (z : AH) (z0 : Nat) (z1 : Nat) (z2 : Nat) (z3 : Int32) , AO l g M_L_law true h0 18 [(0, .ref z0), (1, .ref z1), (2, .ref z2), (3, .int z3)] [] z (k + 7) (n + 100) rSi (K18 z z0 z1 z2 z3)) (h : AH) (x0 : Nat) (x1 : Nat) (x2 : Nat) (x3 : Int32) : AO l g M_L_law true h0 648 [(0, .ref x0), (1, .ref x1), (2, .ref x2), (3, .int x3)] [] h k n rSi (f_L_law_b648 N K18 h x0 x1 x2 x3) := by
  unfold f_L_law_b648
  refine a_aload_n dL_law_648 rfl 1 rfl ?_
  refine a_aload_n dL_law_649 rfl 0 rfl ?_
  refine a_iload_n dL_law_650 rfl 3 rfl ?_
  refine a_iconst (v := 1) dL_law_651 (by decide) ?_
  refine a_iadd dL_law_652 ?_
  refine a_iald dL_law_653 (fun v142 => ?_)
  refine a_aload_n dL_law_654 rfl 0 rfl ?_
  refine a_iload_n dL_law_655 rfl 3 rfl ?_
  refine a_iconst (v := 2) dL_law_656 (by decide) ?_
  refine a_iadd dL_law_657 ?_
  refine a_iald dL_law_658 (fun v143 => ?_)
  refine a_aload_n dL_law_659 rfl 0 rfl ?_
  refine a_iload_n dL_law_660 rfl 3 rfl ?_
  refine a_iconst (v := 3) dL_law_661 (by decide) ?_
  refine a_iadd dL_law_662 ?_
  refine a_iald dL_law_663 (fun v144 => ?_)
  refine a_aload_n dL_law_664 rfl 0 rfl ?_
  refine a_iload_n dL_law_665 rfl 3 rfl ?_
  refine a_iconst (v := 4) dL_law_666 (by decide) ?_
  refine a_iadd dL_law_667 ?_
  refine a_iald dL_law_668 (fun v145 => ?_)
  refine a_cV_Pi (r := x1) (ci := 12) (as := [.int v142, .int v143, .int v144, .int v145]) (st := []) dL_law_669 (c_X11_filled l g h N x1 v142 v143 v144 v145) rfl km_X11_filled (hm_X11_filled) rfl (by decide) rfl (fun _ ee => g_X11_filled ee) w_methodLink_RainCoverLaw_49 w_instanceMethod_RainCover_filled__IIII_I w_selects_RainCover_RainCover_filled__IIII_I_RainCover_filled__IIII_I ⟨⟨by decide, by decide⟩, ⟨by show k + 0 ≤ 600000; omega, by show n + 0 ≤ 7302250; omega⟩⟩ (Nat.le_of_ble_eq_true rfl) (fun v146 => ?_)
  refine a_aload_n dL_law_672 rfl 2 rfl ?_
  refine a_aload_n dL_law_673 rfl 0 rfl ?_
  refine a_iload_n dL_law_674 rfl 3 rfl ?_
  refine a_iconst (v := 1) dL_law_675 (by decide) ?_
  refine a_iadd dL_law_676 ?_
  refine a_iald dL_law_677 (fun v147 => ?_)
  refine a_aload_n dL_law_678 rfl 0 rfl ?_
  refine a_iload_n dL_law_679 rfl 3 rfl ?_
  refine a_iconst (v := 2) dL_law_680 (by decide) ?_
  refine a_iadd dL_law_681 ?_
  refine a_iald dL_law_682 (fun v148 => ?_)
  refine a_aload_n dL_law_683 rfl 0 rfl ?_
  refine a_iload_n dL_law_684 rfl 3 rfl ?_
  refine a_iconst (v := 3) dL_law_685 (by decide) ?_
  refine a_iadd dL_law_686 ?_
  refine a_iald dL_law_687 (fun v149 => ?_)
  refine a_aload_n dL_law_688 rfl 0 rfl ?_
  refine a_iload_n dL_law_689 rfl 3 rfl ?_
  refine a_iconst (v := 4) dL_law_690 (by decide) ?_
  refine a_iadd dL_law_691 ?_
  refine a_iald dL_law_692 (fun v150 => ?_)
  refine a_cV_Si (r := x2) (ci := 13) (as := [.int v147, .int v148, .int v149, .int v150]) (st := [.int v146]) dL_law_693 (c_X12_filled l g h N x2 v147 v148 v149 v150) rfl km_X12_filled (hm_X12_filled) rfl (by decide) rfl (fun _ ee => g_X12_filled ee) w_methodLink_RainCoverLaw_52 w_instanceMethod_RainCoverModel_filled__IIII_I w_selects_RainCoverModel_RainCoverModel_filled__IIII_I_RainCoverModel_filled__IIII_I ⟨⟨by decide, by decide⟩, ⟨by show k + 0 ≤ 600000; omega, by show n + 0 ≤ 7302250; omega⟩⟩ (Nat.le_of_ble_eq_true rfl) (fun q151 => ?_)
  refine a_icmp_eq 2505 dL_law_696 (by decide) (fun c152 => ?_) (fun c152 => ?_)
  · refine a_widen (k + 7) (n + 100) (by omega) (by omega) ?_
    exact t_L_law_b2505 h0 N k n hk hn K18 hK18 q151.2 x0 x1 x2 x3
  · refine a_iconst (v := 0) dL_law_699 (by decide) ?_
    exact a_zret dL_law_700 rfl (Or.inl rfl) rfl (by show k ≤ 600000; omega) (by show n ≤ 7302250; omega)
set_option maxRecDepth 100000 in
set_option maxHeartbeats 40000000 in
theorem t_L_law_b701 (h0 : AH) (N : Nat) (k n : Nat) (hk : k + 10 ≤ 600000) (hn : n + 120 ≤ 7302250) (K18 : AH → Nat → Nat → Nat → Int32 → Option (Int32 × AH)) (hK18 : ∀ (z : AH) (z0 : Nat) (z1 : Nat) (z2 : Nat) (z3 : Int32) , AO l g M_L_law true h0 18 [(0, .ref z0), (1, .ref z1), (2, .ref z2), (3, .int z3)] [] z (k + 7) (n + 100) rSi (K18 z z0 z1 z2 z3)) (h : AH) (x0 : Nat) (x1 : Nat) (x2 : Nat) (x3 : Int32) : AO l g M_L_law true h0 701 [(0, .ref x0), (1, .ref x1), (2, .ref x2), (3, .int x3)] [] h k n rSi (f_L_law_b701 N K18 h x0 x1 x2 x3) := by
  unfold f_L_law_b701
  refine a_aload_n dL_law_701 rfl 1 rfl ?_
  refine a_aload_n dL_law_702 rfl 0 rfl ?_
  refine a_iload_n dL_law_703 rfl 3 rfl ?_
  refine a_iconst (v := 1) dL_law_704 (by decide) ?_
  refine a_iadd dL_law_705 ?_
  refine a_iald dL_law_706 (fun v153 => ?_)
  refine a_aload_n dL_law_707 rfl 0 rfl ?_
  refine a_iload_n dL_law_708 rfl 3 rfl ?_
  refine a_iconst (v := 2) dL_law_709 (by decide) ?_
  refine a_iadd dL_law_710 ?_
  refine a_iald dL_law_711 (fun v154 => ?_)
  refine a_aload_n dL_law_712 rfl 0 rfl ?_
  refine a_iload_n dL_law_713 rfl 3 rfl ?_
  refine a_iconst (v := 3) dL_law_714 (by decide) ?_
  refine a_iadd dL_law_715 ?_
  refine a_iald dL_law_716 (fun v155 => ?_)
  refine a_aload_n dL_law_717 rfl 0 rfl ?_
  refine a_iload_n dL_law_718 rfl 3 rfl ?_
  refine a_iconst (v := 4) dL_law_719 (by decide) ?_
  refine a_iadd dL_law_720 ?_
  refine a_iald dL_law_721 (fun v156 => ?_)
  refine a_cV_Pi (r := x1) (ci := 12) (as := [.int v153, .int v154, .int v155, .int v156]) (st := []) dL_law_722 (c_X11_span l g h N x1 v153 v154 v155 v156) rfl km_X11_span (hm_X11_span) rfl (by decide) rfl (fun _ ee => g_X11_span ee) w_methodLink_RainCoverLaw_53 w_instanceMethod_RainCover_span__IIII_I w_selects_RainCover_RainCover_span__IIII_I_RainCover_span__IIII_I ⟨⟨by decide, by decide⟩, ⟨by show k + 0 ≤ 600000; omega, by show n + 0 ≤ 7302250; omega⟩⟩ (Nat.le_of_ble_eq_true rfl) (fun v157 => ?_)
  refine a_aload_n dL_law_725 rfl 2 rfl ?_
  refine a_aload_n dL_law_726 rfl 0 rfl ?_
  refine a_iload_n dL_law_727 rfl 3 rfl ?_
  refine a_iconst (v := 1) dL_law_728 (by decide) ?_
  refine a_iadd dL_law_729 ?_
  refine a_iald dL_law_730 (fun v158 => ?_)
  refine a_aload_n dL_law_731 rfl 0 rfl ?_
  refine a_iload_n dL_law_732 rfl 3 rfl ?_
  refine a_iconst (v := 2) dL_law_733 (by decide) ?_
  refine a_iadd dL_law_734 ?_
  refine a_iald dL_law_735 (fun v159 => ?_)
  refine a_aload_n dL_law_736 rfl 0 rfl ?_
  refine a_iload_n dL_law_737 rfl 3 rfl ?_
  refine a_iconst (v := 3) dL_law_738 (by decide) ?_
  refine a_iadd dL_law_739 ?_
  refine a_iald dL_law_740 (fun v160 => ?_)
  refine a_aload_n dL_law_741 rfl 0 rfl ?_
  refine a_iload_n dL_law_742 rfl 3 rfl ?_
  refine a_iconst (v := 4) dL_law_743 (by decide) ?_
  refine a_iadd dL_law_744 ?_
  refine a_iald dL_law_745 (fun v161 => ?_)
  refine a_cV_Pi (r := x2) (ci := 13) (as := [.int v158, .int v159, .int v160, .int v161]) (st := [.int v157]) dL_law_746 (c_X12_span l g h N x2 v158 v159 v160 v161) rfl km_X12_span (hm_X12_span) rfl (by decide) rfl (fun _ ee => g_X12_span ee) w_methodLink_RainCoverLaw_56 w_instanceMethod_RainCoverModel_span__IIII_I w_selects_RainCoverModel_RainCoverModel_span__IIII_I_RainCoverModel_span__IIII_I ⟨⟨by decide, by decide⟩, ⟨by show k + 0 ≤ 600000; omega, by show n + 0 ≤ 7302250; omega⟩⟩ (Nat.le_of_ble_eq_true rfl) (fun v162 => ?_)
  refine a_icmp_eq 2505 dL_law_749 (by decide) (fun c163 => ?_) (fun c163 => ?_)
  · refine a_widen (k + 7) (n + 100) (by omega) (by omega) ?_
    exact t_L_law_b2505 h0 N k n hk hn K18 hK18 h x0 x1 x2 x3
  · refine a_iconst (v := 0) dL_law_752 (by decide) ?_
    exact a_zret dL_law_753 rfl (Or.inl rfl) rfl (by show k ≤ 600000; omega) (by show n ≤ 7302250; omega)
set_option maxRecDepth 100000 in
set_option maxHeartbeats 40000000 in
theorem t_L_law_b754 (h0 : AH) (N : Nat) (k n : Nat) (hk : k + 10 ≤ 600000) (hn : n + 120 ≤ 7302250) (K18 : AH → Nat → Nat → Nat → Int32 → Option (Int32 × AH)) (hK18 : ∀ (z : AH) (z0 : Nat) (z1 : Nat) (z2 : Nat) (z3 : Int32) , AO l g M_L_law true h0 18 [(0, .ref z0), (1, .ref z1), (2, .ref z2), (3, .int z3)] [] z (k + 7) (n + 100) rSi (K18 z z0 z1 z2 z3)) (h : AH) (x0 : Nat) (x1 : Nat) (x2 : Nat) (x3 : Int32) : AO l g M_L_law true h0 754 [(0, .ref x0), (1, .ref x1), (2, .ref x2), (3, .int x3)] [] h k n rSi (f_L_law_b754 N K18 h x0 x1 x2 x3) := by
  unfold f_L_law_b754
  refine a_aload_n dL_law_754 rfl 1 rfl ?_
  refine a_aload_n dL_law_755 rfl 0 rfl ?_
  refine a_iload_n dL_law_756 rfl 3 rfl ?_
  refine a_iconst (v := 1) dL_law_757 (by decide) ?_
  refine a_iadd dL_law_758 ?_
  refine a_iald dL_law_759 (fun v164 => ?_)
  refine a_aload_n dL_law_760 rfl 0 rfl ?_
  refine a_iload_n dL_law_761 rfl 3 rfl ?_
  refine a_iconst (v := 2) dL_law_762 (by decide) ?_
  refine a_iadd dL_law_763 ?_
  refine a_iald dL_law_764 (fun v165 => ?_)
  refine a_cV_Pi (r := x1) (ci := 12) (as := [.int v164, .int v165]) (st := []) dL_law_765 (c_X11_odd l g h N x1 v164 v165) rfl km_X11_odd (hm_X11_odd) rfl (by decide) rfl (fun _ ee => g_X11_odd ee) w_methodLink_RainCoverLaw_57 w_instanceMethod_RainCover_odd__II_I w_selects_RainCover_RainCover_odd__II_I_RainCover_odd__II_I ⟨⟨by decide, by decide⟩, ⟨by show k + 0 ≤ 600000; omega, by show n + 0 ≤ 7302250; omega⟩⟩ (Nat.le_of_ble_eq_true rfl) (fun v166 => ?_)
  refine a_aload_n dL_law_768 rfl 2 rfl ?_
  refine a_aload_n dL_law_769 rfl 0 rfl ?_
  refine a_iload_n dL_law_770 rfl 3 rfl ?_
  refine a_iconst (v := 1) dL_law_771 (by decide) ?_
  refine a_iadd dL_law_772 ?_
  refine a_iald dL_law_773 (fun v167 => ?_)
  refine a_aload_n dL_law_774 rfl 0 rfl ?_
  refine a_iload_n dL_law_775 rfl 3 rfl ?_
  refine a_iconst (v := 2) dL_law_776 (by decide) ?_
  refine a_iadd dL_law_777 ?_
  refine a_iald dL_law_778 (fun v168 => ?_)
  refine a_cV_Pi (r := x2) (ci := 13) (as := [.int v167, .int v168]) (st := [.int v166]) dL_law_779 (c_X12_odd l g h N x2 v167 v168) rfl km_X12_odd (hm_X12_odd) rfl (by decide) rfl (fun _ ee => g_X12_odd ee) w_methodLink_RainCoverLaw_60 w_instanceMethod_RainCoverModel_odd__II_I w_selects_RainCoverModel_RainCoverModel_odd__II_I_RainCoverModel_odd__II_I ⟨⟨by decide, by decide⟩, ⟨by show k + 0 ≤ 600000; omega, by show n + 0 ≤ 7302250; omega⟩⟩ (Nat.le_of_ble_eq_true rfl) (fun v169 => ?_)
  refine a_icmp_eq 2505 dL_law_782 (by decide) (fun c170 => ?_) (fun c170 => ?_)
  · refine a_widen (k + 7) (n + 100) (by omega) (by omega) ?_
    exact t_L_law_b2505 h0 N k n hk hn K18 hK18 h x0 x1 x2 x3
  · refine a_iconst (v := 0) dL_law_785 (by decide) ?_
    exact a_zret dL_law_786 rfl (Or.inl rfl) rfl (by show k ≤ 600000; omega) (by show n ≤ 7302250; omega)
set_option maxRecDepth 100000 in
set_option maxHeartbeats 40000000 in
theorem t_L_law_b787 (h0 : AH) (N : Nat) (k n : Nat) (hk : k + 10 ≤ 600000) (hn : n + 120 ≤ 7302250) (K18 : AH → Nat → Nat → Nat → Int32 → Option (Int32 × AH)) (hK18 : ∀ (z : AH) (z0 : Nat) (z1 : Nat) (z2 : Nat) (z3 : Int32) , AO l g M_L_law true h0 18 [(0, .ref z0), (1, .ref z1), (2, .ref z2), (3, .int z3)] [] z (k + 7) (n + 100) rSi (K18 z z0 z1 z2 z3)) (h : AH) (x0 : Nat) (x1 : Nat) (x2 : Nat) (x3 : Int32) : AO l g M_L_law true h0 787 [(0, .ref x0), (1, .ref x1), (2, .ref x2), (3, .int x3)] [] h k n rSi (f_L_law_b787 N K18 h x0 x1 x2 x3) := by
  unfold f_L_law_b787
  refine a_aload_n dL_law_787 rfl 1 rfl ?_
  refine a_aload_n dL_law_788 rfl 0 rfl ?_
  refine a_iload_n dL_law_789 rfl 3 rfl ?_
  refine a_iconst (v := 1) dL_law_790 (by decide) ?_
  refine a_iadd dL_law_791 ?_
  refine a_iald dL_law_792 (fun v171 => ?_)
  refine a_aload_n dL_law_793 rfl 0 rfl ?_
  refine a_iload_n dL_law_794 rfl 3 rfl ?_
  refine a_iconst (v := 2) dL_law_795 (by decide) ?_
  refine a_iadd dL_law_796 ?_
  refine a_iald dL_law_797 (fun v172 => ?_)
  refine a_cV_Si (r := x1) (ci := 12) (as := [.int v171, .int v172]) (st := []) dL_law_798 (c_X11_feed l g h N x1 v171 v172) rfl km_X11_feed (hm_X11_feed) rfl (by decide) rfl (fun _ ee => g_X11_feed ee) w_methodLink_RainCoverLaw_61 w_instanceMethod_RainCover_feed__II_I w_selects_RainCover_RainCover_feed__II_I_RainCover_feed__II_I ⟨⟨by decide, by decide⟩, ⟨by show k + 0 ≤ 600000; omega, by show n + 0 ≤ 7302250; omega⟩⟩ (Nat.le_of_ble_eq_true rfl) (fun q173 => ?_)
  refine a_aload_n dL_law_801 rfl 2 rfl ?_
  refine a_aload_n dL_law_802 rfl 0 rfl ?_
  refine a_iload_n dL_law_803 rfl 3 rfl ?_
  refine a_iconst (v := 1) dL_law_804 (by decide) ?_
  refine a_iadd dL_law_805 ?_
  refine a_iald dL_law_806 (fun v174 => ?_)
  refine a_aload_n dL_law_807 rfl 0 rfl ?_
  refine a_iload_n dL_law_808 rfl 3 rfl ?_
  refine a_iconst (v := 2) dL_law_809 (by decide) ?_
  refine a_iadd dL_law_810 ?_
  refine a_iald dL_law_811 (fun v175 => ?_)
  refine a_cV_Si (r := x2) (ci := 13) (as := [.int v174, .int v175]) (st := [.int q173.1]) dL_law_812 (c_X12_feed l g q173.2 N x2 v174 v175) rfl km_X12_feed (hm_X12_feed) rfl (by decide) rfl (fun _ ee => g_X12_feed ee) w_methodLink_RainCoverLaw_64 w_instanceMethod_RainCoverModel_feed__II_I w_selects_RainCoverModel_RainCoverModel_feed__II_I_RainCoverModel_feed__II_I ⟨⟨by decide, by decide⟩, ⟨by show k + 0 ≤ 600000; omega, by show n + 0 ≤ 7302250; omega⟩⟩ (Nat.le_of_ble_eq_true rfl) (fun q176 => ?_)
  refine a_icmp_eq 2505 dL_law_815 (by decide) (fun c177 => ?_) (fun c177 => ?_)
  · refine a_widen (k + 7) (n + 100) (by omega) (by omega) ?_
    exact t_L_law_b2505 h0 N k n hk hn K18 hK18 q176.2 x0 x1 x2 x3
  · refine a_iconst (v := 0) dL_law_818 (by decide) ?_
    exact a_zret dL_law_819 rfl (Or.inl rfl) rfl (by show k ≤ 600000; omega) (by show n ≤ 7302250; omega)
set_option maxRecDepth 100000 in
set_option maxHeartbeats 40000000 in
theorem t_L_law_b820 (h0 : AH) (N : Nat) (k n : Nat) (hk : k + 10 ≤ 600000) (hn : n + 120 ≤ 7302250) (K18 : AH → Nat → Nat → Nat → Int32 → Option (Int32 × AH)) (hK18 : ∀ (z : AH) (z0 : Nat) (z1 : Nat) (z2 : Nat) (z3 : Int32) , AO l g M_L_law true h0 18 [(0, .ref z0), (1, .ref z1), (2, .ref z2), (3, .int z3)] [] z (k + 7) (n + 100) rSi (K18 z z0 z1 z2 z3)) (h : AH) (x0 : Nat) (x1 : Nat) (x2 : Nat) (x3 : Int32) : AO l g M_L_law true h0 820 [(0, .ref x0), (1, .ref x1), (2, .ref x2), (3, .int x3)] [] h k n rSi (f_L_law_b820 N K18 h x0 x1 x2 x3) := by
  unfold f_L_law_b820
  refine a_aload_n dL_law_820 rfl 1 rfl ?_
  refine a_xV_Si (r := x1) (ci := 12) (as := []) (st := []) dL_law_821 [x0, x1, x2] rfl (c_X11_term l g h N x1) rfl km_X11_term rfl (by decide) rfl (fun _ ee => g_X11_term ee) w_methodLink_RainCoverLaw_65 w_instanceMethod_RainCover_term___I w_selects_RainCover_RainCover_term___I_RainCover_term___I ⟨⟨by decide, by decide⟩, ⟨by show k + 7 ≤ 600000; omega, by show n + 71 ≤ 7302250; omega⟩⟩ (Nat.le_of_ble_eq_true rfl) (fun q178 => ?_)
  refine a_widen (k + 7) (n + 71) (Nat.le_refl _) (Nat.le_refl _) ?_
  refine a_aload_n dL_law_824 rfl 2 rfl ?_
  refine a_cV_Si (r := x2) (ci := 13) (as := []) (st := [.int q178.1]) dL_law_825 (c_X12_term l g q178.2 N x2) rfl km_X12_term (hm_X12_term) rfl (by decide) rfl (fun _ ee => g_X12_term ee) w_methodLink_RainCoverLaw_69 w_instanceMethod_RainCoverModel_term___I w_selects_RainCoverModel_RainCoverModel_term___I_RainCoverModel_term___I ⟨⟨by decide, by decide⟩, ⟨by show (k + 7) + 0 ≤ 600000; omega, by show (n + 71) + 0 ≤ 7302250; omega⟩⟩ (Nat.le_of_ble_eq_true rfl) (fun q179 => ?_)
  refine a_icmp_eq 2505 dL_law_828 (by decide) (fun c180 => ?_) (fun c180 => ?_)
  · refine a_widen (k + 7) (n + 100) (by omega) (by omega) ?_
    exact t_L_law_b2505 h0 N k n hk hn K18 hK18 q179.2 x0 x1 x2 x3
  · refine a_iconst (v := 0) dL_law_831 (by decide) ?_
    exact a_zret dL_law_832 rfl (Or.inl rfl) rfl (by show (k + 7) ≤ 600000; omega) (by show (n + 71) ≤ 7302250; omega)
set_option maxRecDepth 100000 in
set_option maxHeartbeats 40000000 in
theorem t_L_law_b833 (h0 : AH) (N : Nat) (k n : Nat) (hk : k + 10 ≤ 600000) (hn : n + 120 ≤ 7302250) (K18 : AH → Nat → Nat → Nat → Int32 → Option (Int32 × AH)) (hK18 : ∀ (z : AH) (z0 : Nat) (z1 : Nat) (z2 : Nat) (z3 : Int32) , AO l g M_L_law true h0 18 [(0, .ref z0), (1, .ref z1), (2, .ref z2), (3, .int z3)] [] z (k + 7) (n + 100) rSi (K18 z z0 z1 z2 z3)) (h : AH) (x0 : Nat) (x1 : Nat) (x2 : Nat) (x3 : Int32) : AO l g M_L_law true h0 833 [(0, .ref x0), (1, .ref x1), (2, .ref x2), (3, .int x3)] [] h k n rSi (f_L_law_b833 N K18 h x0 x1 x2 x3) := by
  unfold f_L_law_b833
  refine a_aload_n dL_law_833 rfl 1 rfl ?_
  refine a_aload_n dL_law_834 rfl 0 rfl ?_
  refine a_iload_n dL_law_835 rfl 3 rfl ?_
  refine a_iconst (v := 1) dL_law_836 (by decide) ?_
  refine a_iadd dL_law_837 ?_
  refine a_iald dL_law_838 (fun v181 => ?_)
  refine a_aload_n dL_law_839 rfl 0 rfl ?_
  refine a_iload_n dL_law_840 rfl 3 rfl ?_
  refine a_iconst (v := 2) dL_law_841 (by decide) ?_
  refine a_iadd dL_law_842 ?_
  refine a_iald dL_law_843 (fun v182 => ?_)
  refine a_aload_n dL_law_844 rfl 0 rfl ?_
  refine a_iload_n dL_law_845 rfl 3 rfl ?_
  refine a_iconst (v := 3) dL_law_846 (by decide) ?_
  refine a_iadd dL_law_847 ?_
  refine a_iald dL_law_848 (fun v183 => ?_)
  refine a_aload_n dL_law_849 rfl 0 rfl ?_
  refine a_iload_n dL_law_850 rfl 3 rfl ?_
  refine a_iconst (v := 4) dL_law_851 (by decide) ?_
  refine a_iadd dL_law_852 ?_
  refine a_iald dL_law_853 (fun v184 => ?_)
  refine a_aload_n dL_law_854 rfl 0 rfl ?_
  refine a_iload_n dL_law_855 rfl 3 rfl ?_
  refine a_iconst (v := 5) dL_law_856 (by decide) ?_
  refine a_iadd dL_law_857 ?_
  refine a_iald dL_law_858 (fun v185 => ?_)
  refine a_cV_Si (r := x1) (ci := 12) (as := [.int v181, .int v182, .int v183, .int v184, .int v185]) (st := []) dL_law_859 (c_X11_pay l g h N x1 v181 v182 v183 v184 v185) rfl km_X11_pay (hm_X11_pay) rfl (by decide) rfl (fun _ ee => g_X11_pay ee) w_methodLink_RainCoverLaw_70 w_instanceMethod_RainCover_pay__IIIII_I w_selects_RainCover_RainCover_pay__IIIII_I_RainCover_pay__IIIII_I ⟨⟨by decide, by decide⟩, ⟨by show k + 0 ≤ 600000; omega, by show n + 0 ≤ 7302250; omega⟩⟩ (Nat.le_of_ble_eq_true rfl) (fun q186 => ?_)
  refine a_aload_n dL_law_862 rfl 2 rfl ?_
  refine a_aload_n dL_law_863 rfl 0 rfl ?_
  refine a_iload_n dL_law_864 rfl 3 rfl ?_
  refine a_iconst (v := 1) dL_law_865 (by decide) ?_
  refine a_iadd dL_law_866 ?_
  refine a_iald dL_law_867 (fun v187 => ?_)
  refine a_aload_n dL_law_868 rfl 0 rfl ?_
  refine a_iload_n dL_law_869 rfl 3 rfl ?_
  refine a_iconst (v := 2) dL_law_870 (by decide) ?_
  refine a_iadd dL_law_871 ?_
  refine a_iald dL_law_872 (fun v188 => ?_)
  refine a_aload_n dL_law_873 rfl 0 rfl ?_
  refine a_iload_n dL_law_874 rfl 3 rfl ?_
  refine a_iconst (v := 3) dL_law_875 (by decide) ?_
  refine a_iadd dL_law_876 ?_
  refine a_iald dL_law_877 (fun v189 => ?_)
  refine a_aload_n dL_law_878 rfl 0 rfl ?_
  refine a_iload_n dL_law_879 rfl 3 rfl ?_
  refine a_iconst (v := 4) dL_law_880 (by decide) ?_
  refine a_iadd dL_law_881 ?_
  refine a_iald dL_law_882 (fun v190 => ?_)
  refine a_aload_n dL_law_883 rfl 0 rfl ?_
  refine a_iload_n dL_law_884 rfl 3 rfl ?_
  refine a_iconst (v := 5) dL_law_885 (by decide) ?_
  refine a_iadd dL_law_886 ?_
  refine a_iald dL_law_887 (fun v191 => ?_)
  refine a_cV_Pi (r := x2) (ci := 13) (as := [.int v187, .int v188, .int v189, .int v190, .int v191]) (st := [.int q186.1]) dL_law_888 (c_X12_pay l g q186.2 N x2 v187 v188 v189 v190 v191) rfl km_X12_pay (hm_X12_pay) rfl (by decide) rfl (fun _ ee => g_X12_pay ee) w_methodLink_RainCoverLaw_73 w_instanceMethod_RainCoverModel_pay__IIIII_I w_selects_RainCoverModel_RainCoverModel_pay__IIIII_I_RainCoverModel_pay__IIIII_I ⟨⟨by decide, by decide⟩, ⟨by show k + 0 ≤ 600000; omega, by show n + 0 ≤ 7302250; omega⟩⟩ (Nat.le_of_ble_eq_true rfl) (fun v192 => ?_)
  refine a_icmp_eq 2505 dL_law_891 (by decide) (fun c193 => ?_) (fun c193 => ?_)
  · refine a_widen (k + 7) (n + 100) (by omega) (by omega) ?_
    exact t_L_law_b2505 h0 N k n hk hn K18 hK18 q186.2 x0 x1 x2 x3
  · refine a_iconst (v := 0) dL_law_894 (by decide) ?_
    exact a_zret dL_law_895 rfl (Or.inl rfl) rfl (by show k ≤ 600000; omega) (by show n ≤ 7302250; omega)
set_option maxRecDepth 100000 in
set_option maxHeartbeats 40000000 in
theorem t_L_law_b896 (h0 : AH) (N : Nat) (k n : Nat) (hk : k + 10 ≤ 600000) (hn : n + 120 ≤ 7302250) (K18 : AH → Nat → Nat → Nat → Int32 → Option (Int32 × AH)) (hK18 : ∀ (z : AH) (z0 : Nat) (z1 : Nat) (z2 : Nat) (z3 : Int32) , AO l g M_L_law true h0 18 [(0, .ref z0), (1, .ref z1), (2, .ref z2), (3, .int z3)] [] z (k + 7) (n + 100) rSi (K18 z z0 z1 z2 z3)) (h : AH) (x0 : Nat) (x1 : Nat) (x2 : Nat) (x3 : Int32) : AO l g M_L_law true h0 896 [(0, .ref x0), (1, .ref x1), (2, .ref x2), (3, .int x3)] [] h k n rSi (f_L_law_b896 N K18 h x0 x1 x2 x3) := by
  unfold f_L_law_b896
  refine a_aload_n dL_law_896 rfl 1 rfl ?_
  refine a_aload_n dL_law_897 rfl 0 rfl ?_
  refine a_iload_n dL_law_898 rfl 3 rfl ?_
  refine a_iconst (v := 1) dL_law_899 (by decide) ?_
  refine a_iadd dL_law_900 ?_
  refine a_iald dL_law_901 (fun v194 => ?_)
  refine a_aload_n dL_law_902 rfl 0 rfl ?_
  refine a_iload_n dL_law_903 rfl 3 rfl ?_
  refine a_iconst (v := 2) dL_law_904 (by decide) ?_
  refine a_iadd dL_law_905 ?_
  refine a_iald dL_law_906 (fun v195 => ?_)
  refine a_aload_n dL_law_907 rfl 0 rfl ?_
  refine a_iload_n dL_law_908 rfl 3 rfl ?_
  refine a_iconst (v := 3) dL_law_909 (by decide) ?_
  refine a_iadd dL_law_910 ?_
  refine a_iald dL_law_911 (fun v196 => ?_)
  refine a_aload_n dL_law_912 rfl 0 rfl ?_
  refine a_iload_n dL_law_913 rfl 3 rfl ?_
  refine a_iconst (v := 4) dL_law_914 (by decide) ?_
  refine a_iadd dL_law_915 ?_
  refine a_iald dL_law_916 (fun v197 => ?_)
  refine a_xV_Si (r := x1) (ci := 12) (as := [.int v194, .int v195, .int v196, .int v197]) (st := []) dL_law_917 [x0, x1, x2] rfl (c_X11_farm l g h x1 v194 v195 v196 v197) rfl km_X11_farm rfl (by decide) rfl (fun _ ee => g_X11_farm ee) w_methodLink_RainCoverLaw_74 w_instanceMethod_RainCover_farm__IIII_I w_selects_RainCover_RainCover_farm__IIII_I_RainCover_farm__IIII_I ⟨⟨by decide, by decide⟩, ⟨by show k + 5 ≤ 600000; omega, by show n + 89 ≤ 7302250; omega⟩⟩ (Nat.le_of_ble_eq_true rfl) (fun q198 => ?_)
  refine a_widen (k + 5) (n + 89) (Nat.le_refl _) (Nat.le_refl _) ?_
  refine a_aload_n dL_law_920 rfl 2 rfl ?_
  refine a_aload_n dL_law_921 rfl 0 rfl ?_
  refine a_iload_n dL_law_922 rfl 3 rfl ?_
  refine a_iconst (v := 1) dL_law_923 (by decide) ?_
  refine a_iadd dL_law_924 ?_
  refine a_iald dL_law_925 (fun v199 => ?_)
  refine a_aload_n dL_law_926 rfl 0 rfl ?_
  refine a_iload_n dL_law_927 rfl 3 rfl ?_
  refine a_iconst (v := 2) dL_law_928 (by decide) ?_
  refine a_iadd dL_law_929 ?_
  refine a_iald dL_law_930 (fun v200 => ?_)
  refine a_aload_n dL_law_931 rfl 0 rfl ?_
  refine a_iload_n dL_law_932 rfl 3 rfl ?_
  refine a_iconst (v := 3) dL_law_933 (by decide) ?_
  refine a_iadd dL_law_934 ?_
  refine a_iald dL_law_935 (fun v201 => ?_)
  refine a_aload_n dL_law_936 rfl 0 rfl ?_
  refine a_iload_n dL_law_937 rfl 3 rfl ?_
  refine a_iconst (v := 4) dL_law_938 (by decide) ?_
  refine a_iadd dL_law_939 ?_
  refine a_iald dL_law_940 (fun v202 => ?_)
  refine a_cV_Si (r := x2) (ci := 13) (as := [.int v199, .int v200, .int v201, .int v202]) (st := [.int q198.1]) dL_law_941 (c_X12_farm l g q198.2 x2 v199 v200 v201 v202) rfl km_X12_farm (hm_X12_farm) rfl (by decide) rfl (fun _ ee => g_X12_farm ee) w_methodLink_RainCoverLaw_77 w_instanceMethod_RainCoverModel_farm__IIII_I w_selects_RainCoverModel_RainCoverModel_farm__IIII_I_RainCoverModel_farm__IIII_I ⟨⟨by decide, by decide⟩, ⟨by show (k + 5) + 0 ≤ 600000; omega, by show (n + 89) + 0 ≤ 7302250; omega⟩⟩ (Nat.le_of_ble_eq_true rfl) (fun q203 => ?_)
  refine a_icmp_eq 2505 dL_law_944 (by decide) (fun c204 => ?_) (fun c204 => ?_)
  · refine a_widen (k + 7) (n + 100) (by omega) (by omega) ?_
    exact t_L_law_b2505 h0 N k n hk hn K18 hK18 q203.2 x0 x1 x2 x3
  · refine a_iconst (v := 0) dL_law_947 (by decide) ?_
    exact a_zret dL_law_948 rfl (Or.inl rfl) rfl (by show (k + 5) ≤ 600000; omega) (by show (n + 89) ≤ 7302250; omega)
set_option maxRecDepth 100000 in
set_option maxHeartbeats 40000000 in
theorem t_L_law_b949 (h0 : AH) (N : Nat) (k n : Nat) (hk : k + 10 ≤ 600000) (hn : n + 120 ≤ 7302250) (K18 : AH → Nat → Nat → Nat → Int32 → Option (Int32 × AH)) (hK18 : ∀ (z : AH) (z0 : Nat) (z1 : Nat) (z2 : Nat) (z3 : Int32) , AO l g M_L_law true h0 18 [(0, .ref z0), (1, .ref z1), (2, .ref z2), (3, .int z3)] [] z (k + 7) (n + 100) rSi (K18 z z0 z1 z2 z3)) (h : AH) (x0 : Nat) (x1 : Nat) (x2 : Nat) (x3 : Int32) : AO l g M_L_law true h0 949 [(0, .ref x0), (1, .ref x1), (2, .ref x2), (3, .int x3)] [] h k n rSi (f_L_law_b949 N K18 h x0 x1 x2 x3) := by
  unfold f_L_law_b949
  refine a_aload_n dL_law_949 rfl 1 rfl ?_
  refine a_aload_n dL_law_950 rfl 0 rfl ?_
  refine a_iload_n dL_law_951 rfl 3 rfl ?_
  refine a_iconst (v := 1) dL_law_952 (by decide) ?_
  refine a_iadd dL_law_953 ?_
  refine a_iald dL_law_954 (fun v205 => ?_)
  refine a_aload_n dL_law_955 rfl 0 rfl ?_
  refine a_iload_n dL_law_956 rfl 3 rfl ?_
  refine a_iconst (v := 2) dL_law_957 (by decide) ?_
  refine a_iadd dL_law_958 ?_
  refine a_iald dL_law_959 (fun v206 => ?_)
  refine a_cV_Si (r := x1) (ci := 12) (as := [.int v205, .int v206]) (st := []) dL_law_960 (c_X11_plant l g h x1 v205 v206) rfl km_X11_plant (hm_X11_plant) rfl (by decide) rfl (fun _ ee => g_X11_plant ee) w_methodLink_RainCoverLaw_78 w_instanceMethod_RainCover_plant__II_I w_selects_RainCover_RainCover_plant__II_I_RainCover_plant__II_I ⟨⟨by decide, by decide⟩, ⟨by show k + 0 ≤ 600000; omega, by show n + 0 ≤ 7302250; omega⟩⟩ (Nat.le_of_ble_eq_true rfl) (fun q207 => ?_)
  refine a_aload_n dL_law_963 rfl 2 rfl ?_
  refine a_aload_n dL_law_964 rfl 0 rfl ?_
  refine a_iload_n dL_law_965 rfl 3 rfl ?_
  refine a_iconst (v := 1) dL_law_966 (by decide) ?_
  refine a_iadd dL_law_967 ?_
  refine a_iald dL_law_968 (fun v208 => ?_)
  refine a_aload_n dL_law_969 rfl 0 rfl ?_
  refine a_iload_n dL_law_970 rfl 3 rfl ?_
  refine a_iconst (v := 2) dL_law_971 (by decide) ?_
  refine a_iadd dL_law_972 ?_
  refine a_iald dL_law_973 (fun v209 => ?_)
  refine a_cV_Si (r := x2) (ci := 13) (as := [.int v208, .int v209]) (st := [.int q207.1]) dL_law_974 (c_X12_plant l g q207.2 x2 v208 v209) rfl km_X12_plant (hm_X12_plant) rfl (by decide) rfl (fun _ ee => g_X12_plant ee) w_methodLink_RainCoverLaw_81 w_instanceMethod_RainCoverModel_plant__II_I w_selects_RainCoverModel_RainCoverModel_plant__II_I_RainCoverModel_plant__II_I ⟨⟨by decide, by decide⟩, ⟨by show k + 0 ≤ 600000; omega, by show n + 0 ≤ 7302250; omega⟩⟩ (Nat.le_of_ble_eq_true rfl) (fun q210 => ?_)
  refine a_icmp_eq 2505 dL_law_977 (by decide) (fun c211 => ?_) (fun c211 => ?_)
  · refine a_widen (k + 7) (n + 100) (by omega) (by omega) ?_
    exact t_L_law_b2505 h0 N k n hk hn K18 hK18 q210.2 x0 x1 x2 x3
  · refine a_iconst (v := 0) dL_law_980 (by decide) ?_
    exact a_zret dL_law_981 rfl (Or.inl rfl) rfl (by show k ≤ 600000; omega) (by show n ≤ 7302250; omega)
set_option maxRecDepth 100000 in
set_option maxHeartbeats 40000000 in
theorem t_L_law_b982 (h0 : AH) (N : Nat) (k n : Nat) (hk : k + 10 ≤ 600000) (hn : n + 120 ≤ 7302250) (K18 : AH → Nat → Nat → Nat → Int32 → Option (Int32 × AH)) (hK18 : ∀ (z : AH) (z0 : Nat) (z1 : Nat) (z2 : Nat) (z3 : Int32) , AO l g M_L_law true h0 18 [(0, .ref z0), (1, .ref z1), (2, .ref z2), (3, .int z3)] [] z (k + 7) (n + 100) rSi (K18 z z0 z1 z2 z3)) (h : AH) (x0 : Nat) (x1 : Nat) (x2 : Nat) (x3 : Int32) : AO l g M_L_law true h0 982 [(0, .ref x0), (1, .ref x1), (2, .ref x2), (3, .int x3)] [] h k n rSi (f_L_law_b982 N K18 h x0 x1 x2 x3) := by
  unfold f_L_law_b982
  refine a_aload_n dL_law_982 rfl 1 rfl ?_
  refine a_aload_n dL_law_983 rfl 0 rfl ?_
  refine a_iload_n dL_law_984 rfl 3 rfl ?_
  refine a_iconst (v := 1) dL_law_985 (by decide) ?_
  refine a_iadd dL_law_986 ?_
  refine a_iald dL_law_987 (fun v212 => ?_)
  refine a_aload_n dL_law_988 rfl 0 rfl ?_
  refine a_iload_n dL_law_989 rfl 3 rfl ?_
  refine a_iconst (v := 2) dL_law_990 (by decide) ?_
  refine a_iadd dL_law_991 ?_
  refine a_iald dL_law_992 (fun v213 => ?_)
  refine a_aload_n dL_law_993 rfl 0 rfl ?_
  refine a_iload_n dL_law_994 rfl 3 rfl ?_
  refine a_iconst (v := 3) dL_law_995 (by decide) ?_
  refine a_iadd dL_law_996 ?_
  refine a_iald dL_law_997 (fun v214 => ?_)
  refine a_cV_Si (r := x1) (ci := 12) (as := [.int v212, .int v213, .int v214]) (st := []) dL_law_998 (c_X11_enroll l g h N x1 v212 v213 v214) rfl km_X11_enroll (hm_X11_enroll) rfl (by decide) rfl (fun _ ee => g_X11_enroll ee) w_methodLink_RainCoverLaw_82 w_instanceMethod_RainCover_enroll__III_I w_selects_RainCover_RainCover_enroll__III_I_RainCover_enroll__III_I ⟨⟨by decide, by decide⟩, ⟨by show k + 0 ≤ 600000; omega, by show n + 0 ≤ 7302250; omega⟩⟩ (Nat.le_of_ble_eq_true rfl) (fun q215 => ?_)
  refine a_aload_n dL_law_1001 rfl 2 rfl ?_
  refine a_aload_n dL_law_1002 rfl 0 rfl ?_
  refine a_iload_n dL_law_1003 rfl 3 rfl ?_
  refine a_iconst (v := 1) dL_law_1004 (by decide) ?_
  refine a_iadd dL_law_1005 ?_
  refine a_iald dL_law_1006 (fun v216 => ?_)
  refine a_aload_n dL_law_1007 rfl 0 rfl ?_
  refine a_iload_n dL_law_1008 rfl 3 rfl ?_
  refine a_iconst (v := 2) dL_law_1009 (by decide) ?_
  refine a_iadd dL_law_1010 ?_
  refine a_iald dL_law_1011 (fun v217 => ?_)
  refine a_aload_n dL_law_1012 rfl 0 rfl ?_
  refine a_iload_n dL_law_1013 rfl 3 rfl ?_
  refine a_iconst (v := 3) dL_law_1014 (by decide) ?_
  refine a_iadd dL_law_1015 ?_
  refine a_iald dL_law_1016 (fun v218 => ?_)
  refine a_cV_Si (r := x2) (ci := 13) (as := [.int v216, .int v217, .int v218]) (st := [.int q215.1]) dL_law_1017 (c_X12_enroll l g q215.2 N x2 v216 v217 v218) rfl km_X12_enroll (hm_X12_enroll) rfl (by decide) rfl (fun _ ee => g_X12_enroll ee) w_methodLink_RainCoverLaw_85 w_instanceMethod_RainCoverModel_enroll__III_I w_selects_RainCoverModel_RainCoverModel_enroll__III_I_RainCoverModel_enroll__III_I ⟨⟨by decide, by decide⟩, ⟨by show k + 0 ≤ 600000; omega, by show n + 0 ≤ 7302250; omega⟩⟩ (Nat.le_of_ble_eq_true rfl) (fun q219 => ?_)
  refine a_icmp_eq 2505 dL_law_1020 (by decide) (fun c220 => ?_) (fun c220 => ?_)
  · refine a_widen (k + 7) (n + 100) (by omega) (by omega) ?_
    exact t_L_law_b2505 h0 N k n hk hn K18 hK18 q219.2 x0 x1 x2 x3
  · refine a_iconst (v := 0) dL_law_1023 (by decide) ?_
    exact a_zret dL_law_1024 rfl (Or.inl rfl) rfl (by show k ≤ 600000; omega) (by show n ≤ 7302250; omega)
set_option maxRecDepth 100000 in
set_option maxHeartbeats 40000000 in
theorem t_L_law_b1025 (h0 : AH) (N : Nat) (k n : Nat) (hk : k + 10 ≤ 600000) (hn : n + 120 ≤ 7302250) (K18 : AH → Nat → Nat → Nat → Int32 → Option (Int32 × AH)) (hK18 : ∀ (z : AH) (z0 : Nat) (z1 : Nat) (z2 : Nat) (z3 : Int32) , AO l g M_L_law true h0 18 [(0, .ref z0), (1, .ref z1), (2, .ref z2), (3, .int z3)] [] z (k + 7) (n + 100) rSi (K18 z z0 z1 z2 z3)) (h : AH) (x0 : Nat) (x1 : Nat) (x2 : Nat) (x3 : Int32) : AO l g M_L_law true h0 1025 [(0, .ref x0), (1, .ref x1), (2, .ref x2), (3, .int x3)] [] h k n rSi (f_L_law_b1025 N K18 h x0 x1 x2 x3) := by
  unfold f_L_law_b1025
  refine a_aload_n dL_law_1025 rfl 1 rfl ?_
  refine a_aload_n dL_law_1026 rfl 0 rfl ?_
  refine a_iload_n dL_law_1027 rfl 3 rfl ?_
  refine a_iconst (v := 1) dL_law_1028 (by decide) ?_
  refine a_iadd dL_law_1029 ?_
  refine a_iald dL_law_1030 (fun v221 => ?_)
  refine a_aload_n dL_law_1031 rfl 0 rfl ?_
  refine a_iload_n dL_law_1032 rfl 3 rfl ?_
  refine a_iconst (v := 2) dL_law_1033 (by decide) ?_
  refine a_iadd dL_law_1034 ?_
  refine a_iald dL_law_1035 (fun v222 => ?_)
  refine a_cV_Si (r := x1) (ci := 12) (as := [.int v221, .int v222]) (st := []) dL_law_1036 (c_X11_lapse l g h N x1 v221 v222) rfl km_X11_lapse (hm_X11_lapse) rfl (by decide) rfl (fun _ ee => g_X11_lapse ee) w_methodLink_RainCoverLaw_86 w_instanceMethod_RainCover_lapse__II_I w_selects_RainCover_RainCover_lapse__II_I_RainCover_lapse__II_I ⟨⟨by decide, by decide⟩, ⟨by show k + 0 ≤ 600000; omega, by show n + 0 ≤ 7302250; omega⟩⟩ (Nat.le_of_ble_eq_true rfl) (fun q223 => ?_)
  refine a_aload_n dL_law_1039 rfl 2 rfl ?_
  refine a_aload_n dL_law_1040 rfl 0 rfl ?_
  refine a_iload_n dL_law_1041 rfl 3 rfl ?_
  refine a_iconst (v := 1) dL_law_1042 (by decide) ?_
  refine a_iadd dL_law_1043 ?_
  refine a_iald dL_law_1044 (fun v224 => ?_)
  refine a_aload_n dL_law_1045 rfl 0 rfl ?_
  refine a_iload_n dL_law_1046 rfl 3 rfl ?_
  refine a_iconst (v := 2) dL_law_1047 (by decide) ?_
  refine a_iadd dL_law_1048 ?_
  refine a_iald dL_law_1049 (fun v225 => ?_)
  refine a_cV_Si (r := x2) (ci := 13) (as := [.int v224, .int v225]) (st := [.int q223.1]) dL_law_1050 (c_X12_lapse l g q223.2 N x2 v224 v225) rfl km_X12_lapse (hm_X12_lapse) rfl (by decide) rfl (fun _ ee => g_X12_lapse ee) w_methodLink_RainCoverLaw_89 w_instanceMethod_RainCoverModel_lapse__II_I w_selects_RainCoverModel_RainCoverModel_lapse__II_I_RainCoverModel_lapse__II_I ⟨⟨by decide, by decide⟩, ⟨by show k + 0 ≤ 600000; omega, by show n + 0 ≤ 7302250; omega⟩⟩ (Nat.le_of_ble_eq_true rfl) (fun q226 => ?_)
  refine a_icmp_eq 2505 dL_law_1053 (by decide) (fun c227 => ?_) (fun c227 => ?_)
  · refine a_widen (k + 7) (n + 100) (by omega) (by omega) ?_
    exact t_L_law_b2505 h0 N k n hk hn K18 hK18 q226.2 x0 x1 x2 x3
  · refine a_iconst (v := 0) dL_law_1056 (by decide) ?_
    exact a_zret dL_law_1057 rfl (Or.inl rfl) rfl (by show k ≤ 600000; omega) (by show n ≤ 7302250; omega)
set_option maxRecDepth 100000 in
set_option maxHeartbeats 40000000 in
theorem t_L_law_b1058 (h0 : AH) (N : Nat) (k n : Nat) (hk : k + 10 ≤ 600000) (hn : n + 120 ≤ 7302250) (K18 : AH → Nat → Nat → Nat → Int32 → Option (Int32 × AH)) (hK18 : ∀ (z : AH) (z0 : Nat) (z1 : Nat) (z2 : Nat) (z3 : Int32) , AO l g M_L_law true h0 18 [(0, .ref z0), (1, .ref z1), (2, .ref z2), (3, .int z3)] [] z (k + 7) (n + 100) rSi (K18 z z0 z1 z2 z3)) (h : AH) (x0 : Nat) (x1 : Nat) (x2 : Nat) (x3 : Int32) : AO l g M_L_law true h0 1058 [(0, .ref x0), (1, .ref x1), (2, .ref x2), (3, .int x3)] [] h k n rSi (f_L_law_b1058 N K18 h x0 x1 x2 x3) := by
  unfold f_L_law_b1058
  refine a_aload_n dL_law_1058 rfl 1 rfl ?_
  refine a_aload_n dL_law_1059 rfl 0 rfl ?_
  refine a_iload_n dL_law_1060 rfl 3 rfl ?_
  refine a_iconst (v := 1) dL_law_1061 (by decide) ?_
  refine a_iadd dL_law_1062 ?_
  refine a_iald dL_law_1063 (fun v228 => ?_)
  refine a_aload_n dL_law_1064 rfl 0 rfl ?_
  refine a_iload_n dL_law_1065 rfl 3 rfl ?_
  refine a_iconst (v := 2) dL_law_1066 (by decide) ?_
  refine a_iadd dL_law_1067 ?_
  refine a_iald dL_law_1068 (fun v229 => ?_)
  refine a_aload_n dL_law_1069 rfl 0 rfl ?_
  refine a_iload_n dL_law_1070 rfl 3 rfl ?_
  refine a_iconst (v := 3) dL_law_1071 (by decide) ?_
  refine a_iadd dL_law_1072 ?_
  refine a_iald dL_law_1073 (fun v230 => ?_)
  refine a_cV_Si (r := x1) (ci := 12) (as := [.int v228, .int v229, .int v230]) (st := []) dL_law_1074 (c_X11_of l g h N x1 v228 v229 v230) rfl km_X11_of (hm_X11_of) rfl (by decide) rfl (fun _ ee => g_X11_of ee) w_methodLink_RainCoverLaw_90 w_instanceMethod_RainCover_of__III_I w_selects_RainCover_RainCover_of__III_I_RainCover_of__III_I ⟨⟨by decide, by decide⟩, ⟨by show k + 0 ≤ 600000; omega, by show n + 0 ≤ 7302250; omega⟩⟩ (Nat.le_of_ble_eq_true rfl) (fun q231 => ?_)
  refine a_aload_n dL_law_1077 rfl 2 rfl ?_
  refine a_aload_n dL_law_1078 rfl 0 rfl ?_
  refine a_iload_n dL_law_1079 rfl 3 rfl ?_
  refine a_iconst (v := 1) dL_law_1080 (by decide) ?_
  refine a_iadd dL_law_1081 ?_
  refine a_iald dL_law_1082 (fun v232 => ?_)
  refine a_aload_n dL_law_1083 rfl 0 rfl ?_
  refine a_iload_n dL_law_1084 rfl 3 rfl ?_
  refine a_iconst (v := 2) dL_law_1085 (by decide) ?_
  refine a_iadd dL_law_1086 ?_
  refine a_iald dL_law_1087 (fun v233 => ?_)
  refine a_aload_n dL_law_1088 rfl 0 rfl ?_
  refine a_iload_n dL_law_1089 rfl 3 rfl ?_
  refine a_iconst (v := 3) dL_law_1090 (by decide) ?_
  refine a_iadd dL_law_1091 ?_
  refine a_iald dL_law_1092 (fun v234 => ?_)
  refine a_cV_Pi (r := x2) (ci := 13) (as := [.int v232, .int v233, .int v234]) (st := [.int q231.1]) dL_law_1093 (c_X12_of l g q231.2 N x2 v232 v233 v234) rfl km_X12_of (hm_X12_of) rfl (by decide) rfl (fun _ ee => g_X12_of ee) w_methodLink_RainCoverLaw_93 w_instanceMethod_RainCoverModel_of__III_I w_selects_RainCoverModel_RainCoverModel_of__III_I_RainCoverModel_of__III_I ⟨⟨by decide, by decide⟩, ⟨by show k + 0 ≤ 600000; omega, by show n + 0 ≤ 7302250; omega⟩⟩ (Nat.le_of_ble_eq_true rfl) (fun v235 => ?_)
  refine a_icmp_eq 2505 dL_law_1096 (by decide) (fun c236 => ?_) (fun c236 => ?_)
  · refine a_widen (k + 7) (n + 100) (by omega) (by omega) ?_
    exact t_L_law_b2505 h0 N k n hk hn K18 hK18 q231.2 x0 x1 x2 x3
  · refine a_iconst (v := 0) dL_law_1099 (by decide) ?_
    exact a_zret dL_law_1100 rfl (Or.inl rfl) rfl (by show k ≤ 600000; omega) (by show n ≤ 7302250; omega)
set_option maxRecDepth 100000 in
set_option maxHeartbeats 40000000 in
theorem t_L_law_b1101 (h0 : AH) (N : Nat) (k n : Nat) (hk : k + 10 ≤ 600000) (hn : n + 120 ≤ 7302250) (K18 : AH → Nat → Nat → Nat → Int32 → Option (Int32 × AH)) (hK18 : ∀ (z : AH) (z0 : Nat) (z1 : Nat) (z2 : Nat) (z3 : Int32) , AO l g M_L_law true h0 18 [(0, .ref z0), (1, .ref z1), (2, .ref z2), (3, .int z3)] [] z (k + 7) (n + 100) rSi (K18 z z0 z1 z2 z3)) (h : AH) (x0 : Nat) (x1 : Nat) (x2 : Nat) (x3 : Int32) : AO l g M_L_law true h0 1101 [(0, .ref x0), (1, .ref x1), (2, .ref x2), (3, .int x3)] [] h k n rSi (f_L_law_b1101 N K18 h x0 x1 x2 x3) := by
  unfold f_L_law_b1101
  refine a_aload_n dL_law_1101 rfl 1 rfl ?_
  refine a_aload_n dL_law_1102 rfl 0 rfl ?_
  refine a_iload_n dL_law_1103 rfl 3 rfl ?_
  refine a_iconst (v := 1) dL_law_1104 (by decide) ?_
  refine a_iadd dL_law_1105 ?_
  refine a_iald dL_law_1106 (fun v237 => ?_)
  refine a_aload_n dL_law_1107 rfl 0 rfl ?_
  refine a_iload_n dL_law_1108 rfl 3 rfl ?_
  refine a_iconst (v := 2) dL_law_1109 (by decide) ?_
  refine a_iadd dL_law_1110 ?_
  refine a_iald dL_law_1111 (fun v238 => ?_)
  refine a_aload_n dL_law_1112 rfl 0 rfl ?_
  refine a_iload_n dL_law_1113 rfl 3 rfl ?_
  refine a_iconst (v := 3) dL_law_1114 (by decide) ?_
  refine a_iadd dL_law_1115 ?_
  refine a_iald dL_law_1116 (fun v239 => ?_)
  refine a_cV_Si (r := x1) (ci := 12) (as := [.int v237, .int v238, .int v239]) (st := []) dL_law_1117 (c_X11_due l g h N x1 v237 v238 v239) rfl km_X11_due (hm_X11_due) rfl (by decide) rfl (fun _ ee => g_X11_due ee) w_methodLink_RainCoverLaw_94 w_instanceMethod_RainCover_due__III_I w_selects_RainCover_RainCover_due__III_I_RainCover_due__III_I ⟨⟨by decide, by decide⟩, ⟨by show k + 0 ≤ 600000; omega, by show n + 0 ≤ 7302250; omega⟩⟩ (Nat.le_of_ble_eq_true rfl) (fun q240 => ?_)
  refine a_aload_n dL_law_1120 rfl 2 rfl ?_
  refine a_aload_n dL_law_1121 rfl 0 rfl ?_
  refine a_iload_n dL_law_1122 rfl 3 rfl ?_
  refine a_iconst (v := 1) dL_law_1123 (by decide) ?_
  refine a_iadd dL_law_1124 ?_
  refine a_iald dL_law_1125 (fun v241 => ?_)
  refine a_aload_n dL_law_1126 rfl 0 rfl ?_
  refine a_iload_n dL_law_1127 rfl 3 rfl ?_
  refine a_iconst (v := 2) dL_law_1128 (by decide) ?_
  refine a_iadd dL_law_1129 ?_
  refine a_iald dL_law_1130 (fun v242 => ?_)
  refine a_aload_n dL_law_1131 rfl 0 rfl ?_
  refine a_iload_n dL_law_1132 rfl 3 rfl ?_
  refine a_iconst (v := 3) dL_law_1133 (by decide) ?_
  refine a_iadd dL_law_1134 ?_
  refine a_iald dL_law_1135 (fun v243 => ?_)
  refine a_cV_Si (r := x2) (ci := 13) (as := [.int v241, .int v242, .int v243]) (st := [.int q240.1]) dL_law_1136 (c_X12_due l g q240.2 N x2 v241 v242 v243) rfl km_X12_due (hm_X12_due) rfl (by decide) rfl (fun _ ee => g_X12_due ee) w_methodLink_RainCoverLaw_97 w_instanceMethod_RainCoverModel_due__III_I w_selects_RainCoverModel_RainCoverModel_due__III_I_RainCoverModel_due__III_I ⟨⟨by decide, by decide⟩, ⟨by show k + 0 ≤ 600000; omega, by show n + 0 ≤ 7302250; omega⟩⟩ (Nat.le_of_ble_eq_true rfl) (fun q244 => ?_)
  refine a_icmp_eq 2505 dL_law_1139 (by decide) (fun c245 => ?_) (fun c245 => ?_)
  · refine a_widen (k + 7) (n + 100) (by omega) (by omega) ?_
    exact t_L_law_b2505 h0 N k n hk hn K18 hK18 q244.2 x0 x1 x2 x3
  · refine a_iconst (v := 0) dL_law_1142 (by decide) ?_
    exact a_zret dL_law_1143 rfl (Or.inl rfl) rfl (by show k ≤ 600000; omega) (by show n ≤ 7302250; omega)
set_option maxRecDepth 100000 in
set_option maxHeartbeats 40000000 in
theorem t_L_law_b1144 (h0 : AH) (N : Nat) (k n : Nat) (hk : k + 10 ≤ 600000) (hn : n + 120 ≤ 7302250) (K18 : AH → Nat → Nat → Nat → Int32 → Option (Int32 × AH)) (hK18 : ∀ (z : AH) (z0 : Nat) (z1 : Nat) (z2 : Nat) (z3 : Int32) , AO l g M_L_law true h0 18 [(0, .ref z0), (1, .ref z1), (2, .ref z2), (3, .int z3)] [] z (k + 7) (n + 100) rSi (K18 z z0 z1 z2 z3)) (h : AH) (x0 : Nat) (x1 : Nat) (x2 : Nat) (x3 : Int32) : AO l g M_L_law true h0 1144 [(0, .ref x0), (1, .ref x1), (2, .ref x2), (3, .int x3)] [] h k n rSi (f_L_law_b1144 N K18 h x0 x1 x2 x3) := by
  unfold f_L_law_b1144
  refine a_aload_n dL_law_1144 rfl 1 rfl ?_
  refine a_aload_n dL_law_1145 rfl 0 rfl ?_
  refine a_iload_n dL_law_1146 rfl 3 rfl ?_
  refine a_iconst (v := 1) dL_law_1147 (by decide) ?_
  refine a_iadd dL_law_1148 ?_
  refine a_iald dL_law_1149 (fun v246 => ?_)
  refine a_aload_n dL_law_1150 rfl 0 rfl ?_
  refine a_iload_n dL_law_1151 rfl 3 rfl ?_
  refine a_iconst (v := 2) dL_law_1152 (by decide) ?_
  refine a_iadd dL_law_1153 ?_
  refine a_iald dL_law_1154 (fun v247 => ?_)
  refine a_aload_n dL_law_1155 rfl 0 rfl ?_
  refine a_iload_n dL_law_1156 rfl 3 rfl ?_
  refine a_iconst (v := 3) dL_law_1157 (by decide) ?_
  refine a_iadd dL_law_1158 ?_
  refine a_iald dL_law_1159 (fun v248 => ?_)
  refine a_cV_Si (r := x1) (ci := 12) (as := [.int v246, .int v247, .int v248]) (st := []) dL_law_1160 (c_X11_line l g h N x1 v246 v247 v248) rfl km_X11_line (hm_X11_line) rfl (by decide) rfl (fun _ ee => g_X11_line ee) w_methodLink_RainCoverLaw_98 w_instanceMethod_RainCover_line__III_I w_selects_RainCover_RainCover_line__III_I_RainCover_line__III_I ⟨⟨by decide, by decide⟩, ⟨by show k + 0 ≤ 600000; omega, by show n + 0 ≤ 7302250; omega⟩⟩ (Nat.le_of_ble_eq_true rfl) (fun q249 => ?_)
  refine a_aload_n dL_law_1163 rfl 2 rfl ?_
  refine a_aload_n dL_law_1164 rfl 0 rfl ?_
  refine a_iload_n dL_law_1165 rfl 3 rfl ?_
  refine a_iconst (v := 1) dL_law_1166 (by decide) ?_
  refine a_iadd dL_law_1167 ?_
  refine a_iald dL_law_1168 (fun v250 => ?_)
  refine a_aload_n dL_law_1169 rfl 0 rfl ?_
  refine a_iload_n dL_law_1170 rfl 3 rfl ?_
  refine a_iconst (v := 2) dL_law_1171 (by decide) ?_
  refine a_iadd dL_law_1172 ?_
  refine a_iald dL_law_1173 (fun v251 => ?_)
  refine a_aload_n dL_law_1174 rfl 0 rfl ?_
  refine a_iload_n dL_law_1175 rfl 3 rfl ?_
  refine a_iconst (v := 3) dL_law_1176 (by decide) ?_
  refine a_iadd dL_law_1177 ?_
  refine a_iald dL_law_1178 (fun v252 => ?_)
  refine a_cV_Pi (r := x2) (ci := 13) (as := [.int v250, .int v251, .int v252]) (st := [.int q249.1]) dL_law_1179 (c_X12_line l g q249.2 N x2 v250 v251 v252) rfl km_X12_line (hm_X12_line) rfl (by decide) rfl (fun _ ee => g_X12_line ee) w_methodLink_RainCoverLaw_101 w_instanceMethod_RainCoverModel_line__III_I w_selects_RainCoverModel_RainCoverModel_line__III_I_RainCoverModel_line__III_I ⟨⟨by decide, by decide⟩, ⟨by show k + 0 ≤ 600000; omega, by show n + 0 ≤ 7302250; omega⟩⟩ (Nat.le_of_ble_eq_true rfl) (fun v253 => ?_)
  refine a_icmp_eq 2505 dL_law_1182 (by decide) (fun c254 => ?_) (fun c254 => ?_)
  · refine a_widen (k + 7) (n + 100) (by omega) (by omega) ?_
    exact t_L_law_b2505 h0 N k n hk hn K18 hK18 q249.2 x0 x1 x2 x3
  · refine a_iconst (v := 0) dL_law_1185 (by decide) ?_
    exact a_zret dL_law_1186 rfl (Or.inl rfl) rfl (by show k ≤ 600000; omega) (by show n ≤ 7302250; omega)
set_option maxRecDepth 100000 in
set_option maxHeartbeats 40000000 in
theorem t_L_law_b1187 (h0 : AH) (N : Nat) (k n : Nat) (hk : k + 10 ≤ 600000) (hn : n + 120 ≤ 7302250) (K18 : AH → Nat → Nat → Nat → Int32 → Option (Int32 × AH)) (hK18 : ∀ (z : AH) (z0 : Nat) (z1 : Nat) (z2 : Nat) (z3 : Int32) , AO l g M_L_law true h0 18 [(0, .ref z0), (1, .ref z1), (2, .ref z2), (3, .int z3)] [] z (k + 7) (n + 100) rSi (K18 z z0 z1 z2 z3)) (h : AH) (x0 : Nat) (x1 : Nat) (x2 : Nat) (x3 : Int32) : AO l g M_L_law true h0 1187 [(0, .ref x0), (1, .ref x1), (2, .ref x2), (3, .int x3)] [] h k n rSi (f_L_law_b1187 N K18 h x0 x1 x2 x3) := by
  unfold f_L_law_b1187
  refine a_aload_n dL_law_1187 rfl 1 rfl ?_
  refine a_aload_n dL_law_1188 rfl 0 rfl ?_
  refine a_iload_n dL_law_1189 rfl 3 rfl ?_
  refine a_iconst (v := 1) dL_law_1190 (by decide) ?_
  refine a_iadd dL_law_1191 ?_
  refine a_iald dL_law_1192 (fun v255 => ?_)
  refine a_aload_n dL_law_1193 rfl 0 rfl ?_
  refine a_iload_n dL_law_1194 rfl 3 rfl ?_
  refine a_iconst (v := 2) dL_law_1195 (by decide) ?_
  refine a_iadd dL_law_1196 ?_
  refine a_iald dL_law_1197 (fun v256 => ?_)
  refine a_aload_n dL_law_1198 rfl 0 rfl ?_
  refine a_iload_n dL_law_1199 rfl 3 rfl ?_
  refine a_iconst (v := 3) dL_law_1200 (by decide) ?_
  refine a_iadd dL_law_1201 ?_
  refine a_iald dL_law_1202 (fun v257 => ?_)
  refine a_aload_n dL_law_1203 rfl 0 rfl ?_
  refine a_iload_n dL_law_1204 rfl 3 rfl ?_
  refine a_iconst (v := 4) dL_law_1205 (by decide) ?_
  refine a_iadd dL_law_1206 ?_
  refine a_iald dL_law_1207 (fun v258 => ?_)
  refine a_cV_Si (r := x1) (ci := 12) (as := [.int v255, .int v256, .int v257, .int v258]) (st := []) dL_law_1208 (c_X11_look l g h N x1 v255 v256 v257 v258) rfl km_X11_look (hm_X11_look) rfl (by decide) rfl (fun _ ee => g_X11_look ee) w_methodLink_RainCoverLaw_102 w_instanceMethod_RainCover_look__IIII_I w_selects_RainCover_RainCover_look__IIII_I_RainCover_look__IIII_I ⟨⟨by decide, by decide⟩, ⟨by show k + 0 ≤ 600000; omega, by show n + 0 ≤ 7302250; omega⟩⟩ (Nat.le_of_ble_eq_true rfl) (fun q259 => ?_)
  refine a_aload_n dL_law_1211 rfl 2 rfl ?_
  refine a_aload_n dL_law_1212 rfl 0 rfl ?_
  refine a_iload_n dL_law_1213 rfl 3 rfl ?_
  refine a_iconst (v := 1) dL_law_1214 (by decide) ?_
  refine a_iadd dL_law_1215 ?_
  refine a_iald dL_law_1216 (fun v260 => ?_)
  refine a_aload_n dL_law_1217 rfl 0 rfl ?_
  refine a_iload_n dL_law_1218 rfl 3 rfl ?_
  refine a_iconst (v := 2) dL_law_1219 (by decide) ?_
  refine a_iadd dL_law_1220 ?_
  refine a_iald dL_law_1221 (fun v261 => ?_)
  refine a_aload_n dL_law_1222 rfl 0 rfl ?_
  refine a_iload_n dL_law_1223 rfl 3 rfl ?_
  refine a_iconst (v := 3) dL_law_1224 (by decide) ?_
  refine a_iadd dL_law_1225 ?_
  refine a_iald dL_law_1226 (fun v262 => ?_)
  refine a_aload_n dL_law_1227 rfl 0 rfl ?_
  refine a_iload_n dL_law_1228 rfl 3 rfl ?_
  refine a_iconst (v := 4) dL_law_1229 (by decide) ?_
  refine a_iadd dL_law_1230 ?_
  refine a_iald dL_law_1231 (fun v263 => ?_)
  refine a_cV_Si (r := x2) (ci := 13) (as := [.int v260, .int v261, .int v262, .int v263]) (st := [.int q259.1]) dL_law_1232 (c_X12_look l g q259.2 N x2 v260 v261 v262 v263) rfl km_X12_look (hm_X12_look) rfl (by decide) rfl (fun _ ee => g_X12_look ee) w_methodLink_RainCoverLaw_105 w_instanceMethod_RainCoverModel_look__IIII_I w_selects_RainCoverModel_RainCoverModel_look__IIII_I_RainCoverModel_look__IIII_I ⟨⟨by decide, by decide⟩, ⟨by show k + 0 ≤ 600000; omega, by show n + 0 ≤ 7302250; omega⟩⟩ (Nat.le_of_ble_eq_true rfl) (fun q264 => ?_)
  refine a_icmp_eq 2505 dL_law_1235 (by decide) (fun c265 => ?_) (fun c265 => ?_)
  · refine a_widen (k + 7) (n + 100) (by omega) (by omega) ?_
    exact t_L_law_b2505 h0 N k n hk hn K18 hK18 q264.2 x0 x1 x2 x3
  · refine a_iconst (v := 0) dL_law_1238 (by decide) ?_
    exact a_zret dL_law_1239 rfl (Or.inl rfl) rfl (by show k ≤ 600000; omega) (by show n ≤ 7302250; omega)
set_option maxRecDepth 100000 in
set_option maxHeartbeats 40000000 in
theorem t_L_law_b1240 (h0 : AH) (N : Nat) (k n : Nat) (hk : k + 10 ≤ 600000) (hn : n + 120 ≤ 7302250) (K18 : AH → Nat → Nat → Nat → Int32 → Option (Int32 × AH)) (hK18 : ∀ (z : AH) (z0 : Nat) (z1 : Nat) (z2 : Nat) (z3 : Int32) , AO l g M_L_law true h0 18 [(0, .ref z0), (1, .ref z1), (2, .ref z2), (3, .int z3)] [] z (k + 7) (n + 100) rSi (K18 z z0 z1 z2 z3)) (h : AH) (x0 : Nat) (x1 : Nat) (x2 : Nat) (x3 : Int32) : AO l g M_L_law true h0 1240 [(0, .ref x0), (1, .ref x1), (2, .ref x2), (3, .int x3)] [] h k n rSi (f_L_law_b1240 N K18 h x0 x1 x2 x3) := by
  unfold f_L_law_b1240
  refine a_aload_n dL_law_1240 rfl 1 rfl ?_
  refine a_aload_n dL_law_1241 rfl 0 rfl ?_
  refine a_iload_n dL_law_1242 rfl 3 rfl ?_
  refine a_iconst (v := 1) dL_law_1243 (by decide) ?_
  refine a_iadd dL_law_1244 ?_
  refine a_iald dL_law_1245 (fun v266 => ?_)
  refine a_aload_n dL_law_1246 rfl 0 rfl ?_
  refine a_iload_n dL_law_1247 rfl 3 rfl ?_
  refine a_iconst (v := 2) dL_law_1248 (by decide) ?_
  refine a_iadd dL_law_1249 ?_
  refine a_iald dL_law_1250 (fun v267 => ?_)
  refine a_aload_n dL_law_1251 rfl 0 rfl ?_
  refine a_iload_n dL_law_1252 rfl 3 rfl ?_
  refine a_iconst (v := 3) dL_law_1253 (by decide) ?_
  refine a_iadd dL_law_1254 ?_
  refine a_iald dL_law_1255 (fun v268 => ?_)
  refine a_cV_Sl (r := x1) (ci := 12) (as := [.int v266, .int v267, .int v268]) (st := []) dL_law_1256 (c_X11_basis l g h N x1 v266 v267 v268) rfl km_X11_basis (hm_X11_basis) rfl (by decide) rfl (fun _ ee => g_X11_basis ee) w_methodLink_RainCoverLaw_106 w_instanceMethod_RainCover_basis__III_J w_selects_RainCover_RainCover_basis__III_J_RainCover_basis__III_J ⟨⟨by decide, by decide⟩, ⟨by show k + 0 ≤ 600000; omega, by show n + 0 ≤ 7302250; omega⟩⟩ (Nat.le_of_ble_eq_true rfl) (fun q269 => ?_)
  refine a_aload_n dL_law_1259 rfl 2 rfl ?_
  refine a_aload_n dL_law_1260 rfl 0 rfl ?_
  refine a_iload_n dL_law_1261 rfl 3 rfl ?_
  refine a_iconst (v := 1) dL_law_1262 (by decide) ?_
  refine a_iadd dL_law_1263 ?_
  refine a_iald dL_law_1264 (fun v270 => ?_)
  refine a_aload_n dL_law_1265 rfl 0 rfl ?_
  refine a_iload_n dL_law_1266 rfl 3 rfl ?_
  refine a_iconst (v := 2) dL_law_1267 (by decide) ?_
  refine a_iadd dL_law_1268 ?_
  refine a_iald dL_law_1269 (fun v271 => ?_)
  refine a_aload_n dL_law_1270 rfl 0 rfl ?_
  refine a_iload_n dL_law_1271 rfl 3 rfl ?_
  refine a_iconst (v := 3) dL_law_1272 (by decide) ?_
  refine a_iadd dL_law_1273 ?_
  refine a_iald dL_law_1274 (fun v272 => ?_)
  refine a_cV_Pl (r := x2) (ci := 13) (as := [.int v270, .int v271, .int v272]) (st := [.long q269.1]) dL_law_1275 (c_X12_basis l g q269.2 N x2 v270 v271 v272) rfl km_X12_basis (hm_X12_basis) rfl (by decide) rfl (fun _ ee => g_X12_basis ee) w_methodLink_RainCoverLaw_110 w_instanceMethod_RainCoverModel_basis__III_J w_selects_RainCoverModel_RainCoverModel_basis__III_J_RainCoverModel_basis__III_J ⟨⟨by decide, by decide⟩, ⟨by show k + 0 ≤ 600000; omega, by show n + 0 ≤ 7302250; omega⟩⟩ (Nat.le_of_ble_eq_true rfl) (fun v273 => ?_)
  refine a_lcmp dL_law_1278 ?_
  refine a_if_eq 2505 dL_law_1279 (by decide) (fun c274 => ?_) (fun c274 => ?_)
  · refine a_widen (k + 7) (n + 100) (by omega) (by omega) ?_
    exact t_L_law_b2505 h0 N k n hk hn K18 hK18 q269.2 x0 x1 x2 x3
  · refine a_iconst (v := 0) dL_law_1282 (by decide) ?_
    exact a_zret dL_law_1283 rfl (Or.inl rfl) rfl (by show k ≤ 600000; omega) (by show n ≤ 7302250; omega)
set_option maxRecDepth 100000 in
set_option maxHeartbeats 40000000 in
theorem t_L_law_b1284 (h0 : AH) (N : Nat) (k n : Nat) (hk : k + 10 ≤ 600000) (hn : n + 120 ≤ 7302250) (K18 : AH → Nat → Nat → Nat → Int32 → Option (Int32 × AH)) (hK18 : ∀ (z : AH) (z0 : Nat) (z1 : Nat) (z2 : Nat) (z3 : Int32) , AO l g M_L_law true h0 18 [(0, .ref z0), (1, .ref z1), (2, .ref z2), (3, .int z3)] [] z (k + 7) (n + 100) rSi (K18 z z0 z1 z2 z3)) (h : AH) (x0 : Nat) (x1 : Nat) (x2 : Nat) (x3 : Int32) : AO l g M_L_law true h0 1284 [(0, .ref x0), (1, .ref x1), (2, .ref x2), (3, .int x3)] [] h k n rSi (f_L_law_b1284 N K18 h x0 x1 x2 x3) := by
  unfold f_L_law_b1284
  refine a_aload_n dL_law_1284 rfl 1 rfl ?_
  refine a_aload_n dL_law_1285 rfl 0 rfl ?_
  refine a_iload_n dL_law_1286 rfl 3 rfl ?_
  refine a_iconst (v := 1) dL_law_1287 (by decide) ?_
  refine a_iadd dL_law_1288 ?_
  refine a_iald dL_law_1289 (fun v275 => ?_)
  refine a_aload_n dL_law_1290 rfl 0 rfl ?_
  refine a_iload_n dL_law_1291 rfl 3 rfl ?_
  refine a_iconst (v := 2) dL_law_1292 (by decide) ?_
  refine a_iadd dL_law_1293 ?_
  refine a_iald dL_law_1294 (fun v276 => ?_)
  refine a_xV_Si (r := x1) (ci := 12) (as := [.int v275, .int v276]) (st := []) dL_law_1295 [x0, x1, x2] rfl (c_X11_site l g h x1 v275 v276) rfl km_X11_site rfl (by decide) rfl (fun _ ee => g_X11_site ee) w_methodLink_RainCoverLaw_111 w_instanceMethod_RainCover_site__II_I w_selects_RainCover_RainCover_site__II_I_RainCover_site__II_I ⟨⟨by decide, by decide⟩, ⟨by show k + 2 ≤ 600000; omega, by show n + 44 ≤ 7302250; omega⟩⟩ (Nat.le_of_ble_eq_true rfl) (fun q277 => ?_)
  refine a_widen (k + 2) (n + 44) (Nat.le_refl _) (Nat.le_refl _) ?_
  refine a_aload_n dL_law_1298 rfl 2 rfl ?_
  refine a_aload_n dL_law_1299 rfl 0 rfl ?_
  refine a_iload_n dL_law_1300 rfl 3 rfl ?_
  refine a_iconst (v := 1) dL_law_1301 (by decide) ?_
  refine a_iadd dL_law_1302 ?_
  refine a_iald dL_law_1303 (fun v278 => ?_)
  refine a_aload_n dL_law_1304 rfl 0 rfl ?_
  refine a_iload_n dL_law_1305 rfl 3 rfl ?_
  refine a_iconst (v := 2) dL_law_1306 (by decide) ?_
  refine a_iadd dL_law_1307 ?_
  refine a_iald dL_law_1308 (fun v279 => ?_)
  refine a_cV_Si (r := x2) (ci := 13) (as := [.int v278, .int v279]) (st := [.int q277.1]) dL_law_1309 (c_X12_site l g q277.2 x2 v278 v279) rfl km_X12_site (hm_X12_site) rfl (by decide) rfl (fun _ ee => g_X12_site ee) w_methodLink_RainCoverLaw_114 w_instanceMethod_RainCoverModel_site__II_I w_selects_RainCoverModel_RainCoverModel_site__II_I_RainCoverModel_site__II_I ⟨⟨by decide, by decide⟩, ⟨by show (k + 2) + 0 ≤ 600000; omega, by show (n + 44) + 0 ≤ 7302250; omega⟩⟩ (Nat.le_of_ble_eq_true rfl) (fun q280 => ?_)
  refine a_icmp_eq 2505 dL_law_1312 (by decide) (fun c281 => ?_) (fun c281 => ?_)
  · refine a_widen (k + 7) (n + 100) (by omega) (by omega) ?_
    exact t_L_law_b2505 h0 N k n hk hn K18 hK18 q280.2 x0 x1 x2 x3
  · refine a_iconst (v := 0) dL_law_1315 (by decide) ?_
    exact a_zret dL_law_1316 rfl (Or.inl rfl) rfl (by show (k + 2) ≤ 600000; omega) (by show (n + 44) ≤ 7302250; omega)
set_option maxRecDepth 100000 in
set_option maxHeartbeats 40000000 in
theorem t_L_law_b1317 (h0 : AH) (N : Nat) (k n : Nat) (hk : k + 10 ≤ 600000) (hn : n + 120 ≤ 7302250) (K18 : AH → Nat → Nat → Nat → Int32 → Option (Int32 × AH)) (hK18 : ∀ (z : AH) (z0 : Nat) (z1 : Nat) (z2 : Nat) (z3 : Int32) , AO l g M_L_law true h0 18 [(0, .ref z0), (1, .ref z1), (2, .ref z2), (3, .int z3)] [] z (k + 7) (n + 100) rSi (K18 z z0 z1 z2 z3)) (h : AH) (x0 : Nat) (x1 : Nat) (x2 : Nat) (x3 : Int32) : AO l g M_L_law true h0 1317 [(0, .ref x0), (1, .ref x1), (2, .ref x2), (3, .int x3)] [] h k n rSi (f_L_law_b1317 N K18 h x0 x1 x2 x3) := by
  unfold f_L_law_b1317
  refine a_aload_n dL_law_1317 rfl 1 rfl ?_
  refine a_aload_n dL_law_1318 rfl 0 rfl ?_
  refine a_iload_n dL_law_1319 rfl 3 rfl ?_
  refine a_iconst (v := 1) dL_law_1320 (by decide) ?_
  refine a_iadd dL_law_1321 ?_
  refine a_iald dL_law_1322 (fun v282 => ?_)
  refine a_aload_n dL_law_1323 rfl 0 rfl ?_
  refine a_iload_n dL_law_1324 rfl 3 rfl ?_
  refine a_iconst (v := 2) dL_law_1325 (by decide) ?_
  refine a_iadd dL_law_1326 ?_
  refine a_iald dL_law_1327 (fun v283 => ?_)
  refine a_cV_Si (r := x1) (ci := 12) (as := [.int v282, .int v283]) (st := []) dL_law_1328 (c_X11_best l g h N x1 v282 v283) rfl km_X11_best (hm_X11_best) rfl (by decide) rfl (fun _ ee => g_X11_best ee) w_methodLink_RainCoverLaw_115 w_instanceMethod_RainCover_best__II_I w_selects_RainCover_RainCover_best__II_I_RainCover_best__II_I ⟨⟨by decide, by decide⟩, ⟨by show k + 0 ≤ 600000; omega, by show n + 0 ≤ 7302250; omega⟩⟩ (Nat.le_of_ble_eq_true rfl) (fun q284 => ?_)
  refine a_aload_n dL_law_1331 rfl 2 rfl ?_
  refine a_aload_n dL_law_1332 rfl 0 rfl ?_
  refine a_iload_n dL_law_1333 rfl 3 rfl ?_
  refine a_iconst (v := 1) dL_law_1334 (by decide) ?_
  refine a_iadd dL_law_1335 ?_
  refine a_iald dL_law_1336 (fun v285 => ?_)
  refine a_aload_n dL_law_1337 rfl 0 rfl ?_
  refine a_iload_n dL_law_1338 rfl 3 rfl ?_
  refine a_iconst (v := 2) dL_law_1339 (by decide) ?_
  refine a_iadd dL_law_1340 ?_
  refine a_iald dL_law_1341 (fun v286 => ?_)
  refine a_cV_Pi (r := x2) (ci := 13) (as := [.int v285, .int v286]) (st := [.int q284.1]) dL_law_1342 (c_X12_best l g q284.2 N x2 v285 v286) rfl km_X12_best (hm_X12_best) rfl (by decide) rfl (fun _ ee => g_X12_best ee) w_methodLink_RainCoverLaw_118 w_instanceMethod_RainCoverModel_best__II_I w_selects_RainCoverModel_RainCoverModel_best__II_I_RainCoverModel_best__II_I ⟨⟨by decide, by decide⟩, ⟨by show k + 0 ≤ 600000; omega, by show n + 0 ≤ 7302250; omega⟩⟩ (Nat.le_of_ble_eq_true rfl) (fun v287 => ?_)
  refine a_icmp_eq 2505 dL_law_1345 (by decide) (fun c288 => ?_) (fun c288 => ?_)
  · refine a_widen (k + 7) (n + 100) (by omega) (by omega) ?_
    exact t_L_law_b2505 h0 N k n hk hn K18 hK18 q284.2 x0 x1 x2 x3
  · refine a_iconst (v := 0) dL_law_1348 (by decide) ?_
    exact a_zret dL_law_1349 rfl (Or.inl rfl) rfl (by show k ≤ 600000; omega) (by show n ≤ 7302250; omega)
set_option maxRecDepth 100000 in
set_option maxHeartbeats 40000000 in
theorem t_L_law_b1350 (h0 : AH) (N : Nat) (k n : Nat) (hk : k + 10 ≤ 600000) (hn : n + 120 ≤ 7302250) (K18 : AH → Nat → Nat → Nat → Int32 → Option (Int32 × AH)) (hK18 : ∀ (z : AH) (z0 : Nat) (z1 : Nat) (z2 : Nat) (z3 : Int32) , AO l g M_L_law true h0 18 [(0, .ref z0), (1, .ref z1), (2, .ref z2), (3, .int z3)] [] z (k + 7) (n + 100) rSi (K18 z z0 z1 z2 z3)) (h : AH) (x0 : Nat) (x1 : Nat) (x2 : Nat) (x3 : Int32) : AO l g M_L_law true h0 1350 [(0, .ref x0), (1, .ref x1), (2, .ref x2), (3, .int x3)] [] h k n rSi (f_L_law_b1350 N K18 h x0 x1 x2 x3) := by
  unfold f_L_law_b1350
  refine a_aload_n dL_law_1350 rfl 1 rfl ?_
  refine a_aload_n dL_law_1351 rfl 0 rfl ?_
  refine a_iload_n dL_law_1352 rfl 3 rfl ?_
  refine a_iconst (v := 1) dL_law_1353 (by decide) ?_
  refine a_iadd dL_law_1354 ?_
  refine a_iald dL_law_1355 (fun v289 => ?_)
  refine a_aload_n dL_law_1356 rfl 0 rfl ?_
  refine a_iload_n dL_law_1357 rfl 3 rfl ?_
  refine a_iconst (v := 2) dL_law_1358 (by decide) ?_
  refine a_iadd dL_law_1359 ?_
  refine a_iald dL_law_1360 (fun v290 => ?_)
  refine a_aload_n dL_law_1361 rfl 0 rfl ?_
  refine a_iload_n dL_law_1362 rfl 3 rfl ?_
  refine a_iconst (v := 3) dL_law_1363 (by decide) ?_
  refine a_iadd dL_law_1364 ?_
  refine a_iald dL_law_1365 (fun v291 => ?_)
  refine a_aload_n dL_law_1366 rfl 0 rfl ?_
  refine a_iload_n dL_law_1367 rfl 3 rfl ?_
  refine a_iconst (v := 4) dL_law_1368 (by decide) ?_
  refine a_iadd dL_law_1369 ?_
  refine a_iald dL_law_1370 (fun v292 => ?_)
  refine a_aload_n dL_law_1371 rfl 0 rfl ?_
  refine a_iload_n dL_law_1372 rfl 3 rfl ?_
  refine a_iconst (v := 5) dL_law_1373 (by decide) ?_
  refine a_iadd dL_law_1374 ?_
  refine a_iald dL_law_1375 (fun v293 => ?_)
  refine a_cV_Sl (r := x1) (ci := 12) (as := [.int v289, .int v290, .int v291, .int v292, .int v293]) (st := []) dL_law_1376 (c_X11_mean l g h N x1 v289 v290 v291 v292 v293) rfl km_X11_mean (hm_X11_mean) rfl (by decide) rfl (fun _ ee => g_X11_mean ee) w_methodLink_RainCoverLaw_119 w_instanceMethod_RainCover_mean__IIIII_J w_selects_RainCover_RainCover_mean__IIIII_J_RainCover_mean__IIIII_J ⟨⟨by decide, by decide⟩, ⟨by show k + 0 ≤ 600000; omega, by show n + 0 ≤ 7302250; omega⟩⟩ (Nat.le_of_ble_eq_true rfl) (fun q294 => ?_)
  refine a_aload_n dL_law_1379 rfl 2 rfl ?_
  refine a_aload_n dL_law_1380 rfl 0 rfl ?_
  refine a_iload_n dL_law_1381 rfl 3 rfl ?_
  refine a_iconst (v := 1) dL_law_1382 (by decide) ?_
  refine a_iadd dL_law_1383 ?_
  refine a_iald dL_law_1384 (fun v295 => ?_)
  refine a_aload_n dL_law_1385 rfl 0 rfl ?_
  refine a_iload_n dL_law_1386 rfl 3 rfl ?_
  refine a_iconst (v := 2) dL_law_1387 (by decide) ?_
  refine a_iadd dL_law_1388 ?_
  refine a_iald dL_law_1389 (fun v296 => ?_)
  refine a_aload_n dL_law_1390 rfl 0 rfl ?_
  refine a_iload_n dL_law_1391 rfl 3 rfl ?_
  refine a_iconst (v := 3) dL_law_1392 (by decide) ?_
  refine a_iadd dL_law_1393 ?_
  refine a_iald dL_law_1394 (fun v297 => ?_)
  refine a_aload_n dL_law_1395 rfl 0 rfl ?_
  refine a_iload_n dL_law_1396 rfl 3 rfl ?_
  refine a_iconst (v := 4) dL_law_1397 (by decide) ?_
  refine a_iadd dL_law_1398 ?_
  refine a_iald dL_law_1399 (fun v298 => ?_)
  refine a_aload_n dL_law_1400 rfl 0 rfl ?_
  refine a_iload_n dL_law_1401 rfl 3 rfl ?_
  refine a_iconst (v := 5) dL_law_1402 (by decide) ?_
  refine a_iadd dL_law_1403 ?_
  refine a_iald dL_law_1404 (fun v299 => ?_)
  refine a_cV_Pl (r := x2) (ci := 13) (as := [.int v295, .int v296, .int v297, .int v298, .int v299]) (st := [.long q294.1]) dL_law_1405 (c_X12_mean l g q294.2 N x2 v295 v296 v297 v298 v299) rfl km_X12_mean (hm_X12_mean) rfl (by decide) rfl (fun _ ee => g_X12_mean ee) w_methodLink_RainCoverLaw_123 w_instanceMethod_RainCoverModel_mean__IIIII_J w_selects_RainCoverModel_RainCoverModel_mean__IIIII_J_RainCoverModel_mean__IIIII_J ⟨⟨by decide, by decide⟩, ⟨by show k + 0 ≤ 600000; omega, by show n + 0 ≤ 7302250; omega⟩⟩ (Nat.le_of_ble_eq_true rfl) (fun v300 => ?_)
  refine a_lcmp dL_law_1408 ?_
  refine a_if_eq 2505 dL_law_1409 (by decide) (fun c301 => ?_) (fun c301 => ?_)
  · refine a_widen (k + 7) (n + 100) (by omega) (by omega) ?_
    exact t_L_law_b2505 h0 N k n hk hn K18 hK18 q294.2 x0 x1 x2 x3
  · refine a_iconst (v := 0) dL_law_1412 (by decide) ?_
    exact a_zret dL_law_1413 rfl (Or.inl rfl) rfl (by show k ≤ 600000; omega) (by show n ≤ 7302250; omega)
end
