/-! THE LAW'S CASES -/
set_option maxRecDepth 100000 in
set_option maxHeartbeats 4000000 in
theorem law_camp {b Ls n : Nat} {xs : Nat → Int32} {M N : dM} {w : Int64} {z : Int32} {cells slots : Nat} (hLs : Ls ≤ 2048) (hi : 4 * n + 4 ≤ Ls) (hn : n < 512) (h : Ok n M N) (hG : Gd z N) (hc : cells + 3 ≤ 612755) (hs : slots + 18 ≤ 7257839)
    (kk : ∀ (M' N' : dM) (w' : Int64) (z' : Int32), Ok (n + 1) M' N' → Gd z' N' → PW (kL_law b Ls xs) false 0 lwP lwT 928 [some (.retAddr b), some (.ref 0), some (.ref 44), some (.ref 65), some (.int (nI (4 * n))), none, none] [] (SM M' ++ (MM N' ++ ((101, [.long w']) :: []))) (cells + 3) (slots + 18)) :
    PW (kL_law b Ls xs) false 0 lwP lwT 264 [some (.retAddr b), some (.ref 0), some (.ref 44), some (.ref 65), some (.int (nI (4 * n))), none, none] [] (SM M ++ (MM N ++ ((101, [.long w]) :: []))) cells slots := by
  refine PW.aload_n (i := 1) dL_law_264 rfl rfl ?_
  refine PW.aload_nA (i := 0) dL_law_265 rfl rfl ?_
  refine PW.iload dL_law_266 rfl ?_
  refine PW.iconst (v := 1) dL_law_268 (by decide) ?_
  refine PW.iadd dL_law_269 ?_
  refine PW.sld (n := 4 * n + 1) rfl dL_law_270 (nI_add _ 1) (by omega) (by omega) rfl ?_
  refine PW.aload_n (i := 3) dL_law_271 rfl rfl ?_
  refine PW.callSW (k := (kL_law b Ls xs)) (n := 3) (hhl := [(0, 9, 12, 13), (0, 9, 15, 15)]) (h_camp (xs (4 * n + 1)) h.2.1 w) dL_law_272 gL_law_L_camp rfl hdL_camp rfl ⟨(Nat.le_of_ble_eq_true rfl), (Nat.le_of_ble_eq_true rfl)⟩ ⟨rfl, rfl⟩ (Nat.le_of_ble_eq_true rfl) ⟨Nat.le_trans (Nat.add_le_add_left (show 2 ≤ 3 by decide) cells) hc, Nat.le_trans (Nat.add_le_add_left (show 12 ≤ 18 by decide) slots) hs⟩ rfl (fun v m9 hp => ?_) (fun _ _ hx => hx.elim)
  obtain ⟨r, a, M', w9, hH, rfl, rfl, hw9⟩ := hp
  obtain ⟨v9, N', hm, hG', hra, hO⟩ := b_camp h hn hG hH
  refine PW.istore dL_law_275 (Nat.le_of_ble_eq_true rfl) rfl ?_
  refine PW.aload_n (i := 2) dL_law_277 rfl rfl ?_
  refine PW.aload_nA (i := 0) dL_law_278 rfl rfl ?_
  refine PW.iload dL_law_279 rfl ?_
  refine PW.iconst (v := 1) dL_law_281 (by decide) ?_
  refine PW.iadd dL_law_282 ?_
  refine PW.sld (n := 4 * n + 1) rfl dL_law_283 (nI_add _ 1) (by omega) (by omega) rfl ?_
  refine PW.callV (k := (kL_law b Ls xs)) (n := 1) (k' := kX5_camp) (hm _) dL_law_284 gL_law_X5_camp rfl hd_X5_camp rfl ⟨(Nat.le_of_ble_eq_true rfl), (Nat.le_of_ble_eq_true rfl)⟩ ⟨rfl, rfl⟩ (Nat.le_of_ble_eq_true rfl) ⟨Nat.le_trans (Nat.add_le_add_left (show 2 ≤ 3 by decide) cells) hc, Nat.le_trans (Nat.add_le_add_left (show 12 ≤ 18 by decide) slots) hs⟩ sm_mod (by decide) rfl rfl (fun v m9 hp => ?_) (fun _ _ hx => hx.elim)
  obtain ⟨rfl, rfl⟩ := hp
  refine PW.istore dL_law_287 (Nat.le_of_ble_eq_true rfl) rfl ?_
  refine PW.aload_n (i := 2) dL_law_289 rfl rfl ?_
  refine PW.callV (k := (kL_law b Ls xs)) (n := 0) c5_thrown dL_law_290 gL_law_X5_thrown rfl hd_X5_thrown rfl ⟨(Nat.le_of_ble_eq_true rfl), (Nat.le_of_ble_eq_true rfl)⟩ ⟨rfl, rfl⟩ (Nat.le_of_ble_eq_true rfl) ⟨Nat.le_trans (Nat.add_le_add_left (show 2 ≤ 3 by decide) cells) hc, Nat.le_trans (Nat.add_le_add_left (show 12 ≤ 18 by decide) slots) hs⟩ sm_mod (by decide) rfl rfl (fun v m9 hp => ?_) (fun _ _ hx => hx.elim)
  obtain ⟨rfl, rfl⟩ := hp
  refine PW.iload dL_law_293 rfl ?_
  refine PW.icmp_eq (tgt := 300) dL_law_295 (by decide) (fun _ => ?_) (fun q9 => absurd hG'.2.2.2 q9)
  refine PW.iload dL_law_300 rfl ?_
  refine PW.if_ne (tgt := 317) dL_law_302 (by decide) (fun _ => ?_) (fun q9 => ?_)
  · refine PW.goto (tgt := 928) dL_law_317 (by decide) ?_
    refine PW.forget lw_forget ?_
    exact PW.widen (Nat.add_le_add_left (show 2 ≤ 3 by decide) cells) (Nat.add_le_add_left (show 12 ≤ 18 by decide) slots) (kk M' N' w9 r hO hG')
  · refine PW.aload_n (i := 3) dL_law_305 rfl rfl ?_
    refine PW.iconst (v := 0) dL_law_306 (by decide) ?_
    refine PW.lald (n := 0) dL_law_307 sm_out rfl (by decide) rfl ?_
    refine PW.iload dL_law_308 rfl ?_
    refine PW.i2l dL_law_310 ?_
    refine PW.lcmpE dL_law_311 (by rw [hw9 q9, hra q9]) ?_
    refine PW.if_eq (tgt := 317) dL_law_312 (by decide) (fun _ => ?_) (fun q8 => absurd rfl q8)
    refine PW.goto (tgt := 928) dL_law_317 (by decide) ?_
    refine PW.forget lw_forget ?_
    exact PW.widen (Nat.add_le_add_left (show 2 ≤ 3 by decide) cells) (Nat.add_le_add_left (show 12 ≤ 18 by decide) slots) (kk M' N' w9 r hO hG')
set_option maxRecDepth 100000 in
set_option maxHeartbeats 4000000 in
theorem law_park {b Ls n : Nat} {xs : Nat → Int32} {M N : dM} {w : Int64} {z : Int32} {cells slots : Nat} (hLs : Ls ≤ 2048) (hi : 4 * n + 4 ≤ Ls) (hn : n < 512) (h : Ok n M N) (hG : Gd z N) (hc : cells + 3 ≤ 612755) (hs : slots + 18 ≤ 7257839)
    (kk : ∀ (M' N' : dM) (w' : Int64) (z' : Int32), Ok (n + 1) M' N' → Gd z' N' → PW (kL_law b Ls xs) false 0 lwP lwT 928 [some (.retAddr b), some (.ref 0), some (.ref 44), some (.ref 65), some (.int (nI (4 * n))), none, none] [] (SM M' ++ (MM N' ++ ((101, [.long w']) :: []))) (cells + 3) (slots + 18)) :
    PW (kL_law b Ls xs) false 0 lwP lwT 320 [some (.retAddr b), some (.ref 0), some (.ref 44), some (.ref 65), some (.int (nI (4 * n))), none, none] [] (SM M ++ (MM N ++ ((101, [.long w]) :: []))) cells slots := by
  refine PW.aload_n (i := 1) dL_law_320 rfl rfl ?_
  refine PW.aload_nA (i := 0) dL_law_321 rfl rfl ?_
  refine PW.iload dL_law_322 rfl ?_
  refine PW.iconst (v := 1) dL_law_324 (by decide) ?_
  refine PW.iadd dL_law_325 ?_
  refine PW.sld (n := 4 * n + 1) rfl dL_law_326 (nI_add _ 1) (by omega) (by omega) rfl ?_
  refine PW.aload_nA (i := 0) dL_law_327 rfl rfl ?_
  refine PW.iload dL_law_328 rfl ?_
  refine PW.iconst (v := 2) dL_law_330 (by decide) ?_
  refine PW.iadd dL_law_331 ?_
  refine PW.sld (n := 4 * n + 2) rfl dL_law_332 (nI_add _ 2) (by omega) (by omega) rfl ?_
  refine PW.aload_n (i := 3) dL_law_333 rfl rfl ?_
  refine PW.callSW (k := (kL_law b Ls xs)) (n := 4) (hhl := [(0, 10, 13, 13), (0, 10, 17, 15)]) (h_park (xs (4 * n + 1)) (xs (4 * n + 2)) h.2.1 (h.wrM hn) w) dL_law_334 gL_law_L_park rfl hdL_park rfl ⟨(Nat.le_of_ble_eq_true rfl), (Nat.le_of_ble_eq_true rfl)⟩ ⟨rfl, rfl⟩ (Nat.le_of_ble_eq_true rfl) ⟨Nat.le_trans (Nat.add_le_add_left (show 3 ≤ 3 by decide) cells) hc, Nat.le_trans (Nat.add_le_add_left (show 18 ≤ 18 by decide) slots) hs⟩ rfl (fun v m9 hp => ?_) (fun _ _ hx => hx.elim)
  obtain ⟨r, a, M', w9, hH, rfl, rfl, hw9⟩ := hp
  obtain ⟨v9, N', hm, hG', hra, hO⟩ := b_park h hn hG hH
  refine PW.istore dL_law_337 (Nat.le_of_ble_eq_true rfl) rfl ?_
  refine PW.aload_n (i := 2) dL_law_339 rfl rfl ?_
  refine PW.aload_nA (i := 0) dL_law_340 rfl rfl ?_
  refine PW.iload dL_law_341 rfl ?_
  refine PW.iconst (v := 1) dL_law_343 (by decide) ?_
  refine PW.iadd dL_law_344 ?_
  refine PW.sld (n := 4 * n + 1) rfl dL_law_345 (nI_add _ 1) (by omega) (by omega) rfl ?_
  refine PW.aload_nA (i := 0) dL_law_346 rfl rfl ?_
  refine PW.iload dL_law_347 rfl ?_
  refine PW.iconst (v := 2) dL_law_349 (by decide) ?_
  refine PW.iadd dL_law_350 ?_
  refine PW.sld (n := 4 * n + 2) rfl dL_law_351 (nI_add _ 2) (by omega) (by omega) rfl ?_
  refine PW.callV (k := (kL_law b Ls xs)) (n := 2) (k' := kX5_park) (hm _) dL_law_352 gL_law_X5_park rfl hd_X5_park rfl ⟨(Nat.le_of_ble_eq_true rfl), (Nat.le_of_ble_eq_true rfl)⟩ ⟨rfl, rfl⟩ (Nat.le_of_ble_eq_true rfl) ⟨Nat.le_trans (Nat.add_le_add_left (show 3 ≤ 3 by decide) cells) hc, Nat.le_trans (Nat.add_le_add_left (show 18 ≤ 18 by decide) slots) hs⟩ sm_mod (by decide) rfl rfl (fun v m9 hp => ?_) (fun _ _ hx => hx.elim)
  obtain ⟨rfl, rfl⟩ := hp
  refine PW.istore dL_law_355 (Nat.le_of_ble_eq_true rfl) rfl ?_
  refine PW.aload_n (i := 2) dL_law_357 rfl rfl ?_
  refine PW.callV (k := (kL_law b Ls xs)) (n := 0) c5_thrown dL_law_358 gL_law_X5_thrown rfl hd_X5_thrown rfl ⟨(Nat.le_of_ble_eq_true rfl), (Nat.le_of_ble_eq_true rfl)⟩ ⟨rfl, rfl⟩ (Nat.le_of_ble_eq_true rfl) ⟨Nat.le_trans (Nat.add_le_add_left (show 3 ≤ 3 by decide) cells) hc, Nat.le_trans (Nat.add_le_add_left (show 18 ≤ 18 by decide) slots) hs⟩ sm_mod (by decide) rfl rfl (fun v m9 hp => ?_) (fun _ _ hx => hx.elim)
  obtain ⟨rfl, rfl⟩ := hp
  refine PW.iload dL_law_361 rfl ?_
  refine PW.icmp_eq (tgt := 368) dL_law_363 (by decide) (fun _ => ?_) (fun q9 => absurd hG'.2.2.2 q9)
  refine PW.iload dL_law_368 rfl ?_
  refine PW.if_ne (tgt := 385) dL_law_370 (by decide) (fun _ => ?_) (fun q9 => ?_)
  · refine PW.goto (tgt := 928) dL_law_385 (by decide) ?_
    refine PW.forget lw_forget ?_
    exact PW.widen (Nat.add_le_add_left (show 3 ≤ 3 by decide) cells) (Nat.add_le_add_left (show 18 ≤ 18 by decide) slots) (kk M' N' w9 r hO hG')
  · refine PW.aload_n (i := 3) dL_law_373 rfl rfl ?_
    refine PW.iconst (v := 0) dL_law_374 (by decide) ?_
    refine PW.lald (n := 0) dL_law_375 sm_out rfl (by decide) rfl ?_
    refine PW.iload dL_law_376 rfl ?_
    refine PW.i2l dL_law_378 ?_
    refine PW.lcmpE dL_law_379 (by rw [hw9 q9, hra q9]) ?_
    refine PW.if_eq (tgt := 385) dL_law_380 (by decide) (fun _ => ?_) (fun q8 => absurd rfl q8)
    refine PW.goto (tgt := 928) dL_law_385 (by decide) ?_
    refine PW.forget lw_forget ?_
    exact PW.widen (Nat.add_le_add_left (show 3 ≤ 3 by decide) cells) (Nat.add_le_add_left (show 18 ≤ 18 by decide) slots) (kk M' N' w9 r hO hG')
set_option maxRecDepth 100000 in
set_option maxHeartbeats 4000000 in
theorem law_transfer {b Ls n : Nat} {xs : Nat → Int32} {M N : dM} {w : Int64} {z : Int32} {cells slots : Nat} (hLs : Ls ≤ 2048) (hi : 4 * n + 4 ≤ Ls) (hn : n < 512) (h : Ok n M N) (hG : Gd z N) (hc : cells + 3 ≤ 612755) (hs : slots + 18 ≤ 7257839)
    (kk : ∀ (M' N' : dM) (w' : Int64) (z' : Int32), Ok (n + 1) M' N' → Gd z' N' → PW (kL_law b Ls xs) false 0 lwP lwT 928 [some (.retAddr b), some (.ref 0), some (.ref 44), some (.ref 65), some (.int (nI (4 * n))), none, none] [] (SM M' ++ (MM N' ++ ((101, [.long w']) :: []))) (cells + 3) (slots + 18)) :
    PW (kL_law b Ls xs) false 0 lwP lwT 388 [some (.retAddr b), some (.ref 0), some (.ref 44), some (.ref 65), some (.int (nI (4 * n))), none, none] [] (SM M ++ (MM N ++ ((101, [.long w]) :: []))) cells slots := by
  refine PW.aload_n (i := 1) dL_law_388 rfl rfl ?_
  refine PW.aload_nA (i := 0) dL_law_389 rfl rfl ?_
  refine PW.iload dL_law_390 rfl ?_
  refine PW.iconst (v := 1) dL_law_392 (by decide) ?_
  refine PW.iadd dL_law_393 ?_
  refine PW.sld (n := 4 * n + 1) rfl dL_law_394 (nI_add _ 1) (by omega) (by omega) rfl ?_
  refine PW.aload_nA (i := 0) dL_law_395 rfl rfl ?_
  refine PW.iload dL_law_396 rfl ?_
  refine PW.iconst (v := 2) dL_law_398 (by decide) ?_
  refine PW.iadd dL_law_399 ?_
  refine PW.sld (n := 4 * n + 2) rfl dL_law_400 (nI_add _ 2) (by omega) (by omega) rfl ?_
  refine PW.aload_n (i := 3) dL_law_401 rfl rfl ?_
  refine PW.callSW (k := (kL_law b Ls xs)) (n := 4) (hhl := [(0, 10, 13, 13), (0, 10, 17, 15)]) (h_transfer (xs (4 * n + 1)) (xs (4 * n + 2)) h.2.1 (h.wrM hn) w) dL_law_402 gL_law_L_transfer rfl hdL_transfer rfl ⟨(Nat.le_of_ble_eq_true rfl), (Nat.le_of_ble_eq_true rfl)⟩ ⟨rfl, rfl⟩ (Nat.le_of_ble_eq_true rfl) ⟨Nat.le_trans (Nat.add_le_add_left (show 3 ≤ 3 by decide) cells) hc, Nat.le_trans (Nat.add_le_add_left (show 18 ≤ 18 by decide) slots) hs⟩ rfl (fun v m9 hp => ?_) (fun _ _ hx => hx.elim)
  obtain ⟨r, a, M', w9, hH, rfl, rfl, hw9⟩ := hp
  obtain ⟨v9, N', hm, hG', hra, hO⟩ := b_transfer h hn hG hH
  refine PW.istore dL_law_405 (Nat.le_of_ble_eq_true rfl) rfl ?_
  refine PW.aload_n (i := 2) dL_law_407 rfl rfl ?_
  refine PW.aload_nA (i := 0) dL_law_408 rfl rfl ?_
  refine PW.iload dL_law_409 rfl ?_
  refine PW.iconst (v := 1) dL_law_411 (by decide) ?_
  refine PW.iadd dL_law_412 ?_
  refine PW.sld (n := 4 * n + 1) rfl dL_law_413 (nI_add _ 1) (by omega) (by omega) rfl ?_
  refine PW.aload_nA (i := 0) dL_law_414 rfl rfl ?_
  refine PW.iload dL_law_415 rfl ?_
  refine PW.iconst (v := 2) dL_law_417 (by decide) ?_
  refine PW.iadd dL_law_418 ?_
  refine PW.sld (n := 4 * n + 2) rfl dL_law_419 (nI_add _ 2) (by omega) (by omega) rfl ?_
  refine PW.callV (k := (kL_law b Ls xs)) (n := 2) (k' := kX5_transfer) (hm _) dL_law_420 gL_law_X5_transfer rfl hd_X5_transfer rfl ⟨(Nat.le_of_ble_eq_true rfl), (Nat.le_of_ble_eq_true rfl)⟩ ⟨rfl, rfl⟩ (Nat.le_of_ble_eq_true rfl) ⟨Nat.le_trans (Nat.add_le_add_left (show 3 ≤ 3 by decide) cells) hc, Nat.le_trans (Nat.add_le_add_left (show 18 ≤ 18 by decide) slots) hs⟩ sm_mod (by decide) rfl rfl (fun v m9 hp => ?_) (fun _ _ hx => hx.elim)
  obtain ⟨rfl, rfl⟩ := hp
  refine PW.istore dL_law_423 (Nat.le_of_ble_eq_true rfl) rfl ?_
  refine PW.aload_n (i := 2) dL_law_425 rfl rfl ?_
  refine PW.callV (k := (kL_law b Ls xs)) (n := 0) c5_thrown dL_law_426 gL_law_X5_thrown rfl hd_X5_thrown rfl ⟨(Nat.le_of_ble_eq_true rfl), (Nat.le_of_ble_eq_true rfl)⟩ ⟨rfl, rfl⟩ (Nat.le_of_ble_eq_true rfl) ⟨Nat.le_trans (Nat.add_le_add_left (show 3 ≤ 3 by decide) cells) hc, Nat.le_trans (Nat.add_le_add_left (show 18 ≤ 18 by decide) slots) hs⟩ sm_mod (by decide) rfl rfl (fun v m9 hp => ?_) (fun _ _ hx => hx.elim)
  obtain ⟨rfl, rfl⟩ := hp
  refine PW.iload dL_law_429 rfl ?_
  refine PW.icmp_eq (tgt := 436) dL_law_431 (by decide) (fun _ => ?_) (fun q9 => absurd hG'.2.2.2 q9)
  refine PW.iload dL_law_436 rfl ?_
  refine PW.if_ne (tgt := 453) dL_law_438 (by decide) (fun _ => ?_) (fun q9 => ?_)
  · refine PW.goto (tgt := 928) dL_law_453 (by decide) ?_
    refine PW.forget lw_forget ?_
    exact PW.widen (Nat.add_le_add_left (show 3 ≤ 3 by decide) cells) (Nat.add_le_add_left (show 18 ≤ 18 by decide) slots) (kk M' N' w9 r hO hG')
  · refine PW.aload_n (i := 3) dL_law_441 rfl rfl ?_
    refine PW.iconst (v := 0) dL_law_442 (by decide) ?_
    refine PW.lald (n := 0) dL_law_443 sm_out rfl (by decide) rfl ?_
    refine PW.iload dL_law_444 rfl ?_
    refine PW.i2l dL_law_446 ?_
    refine PW.lcmpE dL_law_447 (by rw [hw9 q9, hra q9]) ?_
    refine PW.if_eq (tgt := 453) dL_law_448 (by decide) (fun _ => ?_) (fun q8 => absurd rfl q8)
    refine PW.goto (tgt := 928) dL_law_453 (by decide) ?_
    refine PW.forget lw_forget ?_
    exact PW.widen (Nat.add_le_add_left (show 3 ≤ 3 by decide) cells) (Nat.add_le_add_left (show 18 ≤ 18 by decide) slots) (kk M' N' w9 r hO hG')
