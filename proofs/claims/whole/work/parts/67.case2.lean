/-! THE LAW'S CASES -/
set_option maxRecDepth 100000 in
set_option maxHeartbeats 4000000 in
theorem law_tick {b Ls n : Nat} {xs : Nat → Int32} {M N : dM} {w : Int64} {z : Int32} {cells slots : Nat} (hLs : Ls ≤ 2048) (hi : 4 * n + 4 ≤ Ls) (hn : n < 512) (h : Ok n M N) (hG : Gd z N) (hc : cells + 3 ≤ 612755) (hs : slots + 18 ≤ 7257839)
    (kk : ∀ (M' N' : dM) (w' : Int64) (z' : Int32), Ok (n + 1) M' N' → Gd z' N' → PW (kL_law b Ls xs) false 0 lwP lwT 928 [some (.retAddr b), some (.ref 0), some (.ref 44), some (.ref 65), some (.int (nI (4 * n))), none, none] [] (SM M' ++ (MM N' ++ ((101, [.long w']) :: []))) (cells + 3) (slots + 18)) :
    PW (kL_law b Ls xs) false 0 lwP lwT 456 [some (.retAddr b), some (.ref 0), some (.ref 44), some (.ref 65), some (.int (nI (4 * n))), none, none] [] (SM M ++ (MM N ++ ((101, [.long w]) :: []))) cells slots := by
  refine PW.aload_n (i := 1) dL_law_456 rfl rfl ?_
  refine PW.aload_nA (i := 0) dL_law_457 rfl rfl ?_
  refine PW.iload dL_law_458 rfl ?_
  refine PW.iconst (v := 1) dL_law_460 (by decide) ?_
  refine PW.iadd dL_law_461 ?_
  refine PW.sld (n := 4 * n + 1) rfl dL_law_462 (nI_add _ 1) (by omega) (by omega) rfl ?_
  refine PW.aload_n (i := 3) dL_law_463 rfl rfl ?_
  refine PW.callSW (k := (kL_law b Ls xs)) (n := 3) (hhl := [(0, 9, 12, 13)]) (h_tick (xs (4 * n + 1)) h.2.1 (fun q => (tick_eq (by omega) h q).2) w) dL_law_464 gL_law_L_tick rfl hdL_tick rfl ⟨(Nat.le_of_ble_eq_true rfl), (Nat.le_of_ble_eq_true rfl)⟩ ⟨rfl, rfl⟩ (Nat.le_of_ble_eq_true rfl) ⟨Nat.le_trans (Nat.add_le_add_left (show 1 ≤ 3 by decide) cells) hc, Nat.le_trans (Nat.add_le_add_left (show 6 ≤ 18 by decide) slots) hs⟩ rfl (fun v m9 hp => ?_) (fun _ _ hx => hx.elim)
  obtain ⟨r, a, M', w9, hH, rfl, rfl, hw9⟩ := hp
  obtain ⟨v9, N', hm, hG', hra, hO⟩ := b_tick h hn hG hH
  refine PW.istore dL_law_467 (Nat.le_of_ble_eq_true rfl) rfl ?_
  refine PW.aload_n (i := 2) dL_law_469 rfl rfl ?_
  refine PW.aload_nA (i := 0) dL_law_470 rfl rfl ?_
  refine PW.iload dL_law_471 rfl ?_
  refine PW.iconst (v := 1) dL_law_473 (by decide) ?_
  refine PW.iadd dL_law_474 ?_
  refine PW.sld (n := 4 * n + 1) rfl dL_law_475 (nI_add _ 1) (by omega) (by omega) rfl ?_
  refine PW.callV (k := (kL_law b Ls xs)) (n := 1) (k' := kX5_tick) (hm _) dL_law_476 gL_law_X5_tick rfl hd_X5_tick rfl ⟨(Nat.le_of_ble_eq_true rfl), (Nat.le_of_ble_eq_true rfl)⟩ ⟨rfl, rfl⟩ (Nat.le_of_ble_eq_true rfl) ⟨Nat.le_trans (Nat.add_le_add_left (show 1 ≤ 3 by decide) cells) hc, Nat.le_trans (Nat.add_le_add_left (show 6 ≤ 18 by decide) slots) hs⟩ sm_mod (by decide) rfl rfl (fun v m9 hp => ?_) (fun _ _ hx => hx.elim)
  obtain ⟨rfl, rfl⟩ := hp
  refine PW.istore dL_law_479 (Nat.le_of_ble_eq_true rfl) rfl ?_
  refine PW.aload_n (i := 2) dL_law_481 rfl rfl ?_
  refine PW.callV (k := (kL_law b Ls xs)) (n := 0) c5_thrown dL_law_482 gL_law_X5_thrown rfl hd_X5_thrown rfl ⟨(Nat.le_of_ble_eq_true rfl), (Nat.le_of_ble_eq_true rfl)⟩ ⟨rfl, rfl⟩ (Nat.le_of_ble_eq_true rfl) ⟨Nat.le_trans (Nat.add_le_add_left (show 1 ≤ 3 by decide) cells) hc, Nat.le_trans (Nat.add_le_add_left (show 6 ≤ 18 by decide) slots) hs⟩ sm_mod (by decide) rfl rfl (fun v m9 hp => ?_) (fun _ _ hx => hx.elim)
  obtain ⟨rfl, rfl⟩ := hp
  refine PW.iload dL_law_485 rfl ?_
  refine PW.icmp_eq (tgt := 492) dL_law_487 (by decide) (fun _ => ?_) (fun q9 => absurd hG'.2.2.2 q9)
  refine PW.iload dL_law_492 rfl ?_
  refine PW.if_ne (tgt := 509) dL_law_494 (by decide) (fun _ => ?_) (fun q9 => ?_)
  · refine PW.goto (tgt := 928) dL_law_509 (by decide) ?_
    refine PW.forget lw_forget ?_
    exact PW.widen (Nat.add_le_add_left (show 1 ≤ 3 by decide) cells) (Nat.add_le_add_left (show 6 ≤ 18 by decide) slots) (kk M' N' w9 r hO hG')
  · refine PW.aload_n (i := 3) dL_law_497 rfl rfl ?_
    refine PW.iconst (v := 0) dL_law_498 (by decide) ?_
    refine PW.lald (n := 0) dL_law_499 sm_out rfl (by decide) rfl ?_
    refine PW.iload dL_law_500 rfl ?_
    refine PW.i2l dL_law_502 ?_
    refine PW.lcmpE dL_law_503 (by rw [hw9 q9, hra q9]) ?_
    refine PW.if_eq (tgt := 509) dL_law_504 (by decide) (fun _ => ?_) (fun q8 => absurd rfl q8)
    refine PW.goto (tgt := 928) dL_law_509 (by decide) ?_
    refine PW.forget lw_forget ?_
    exact PW.widen (Nat.add_le_add_left (show 1 ≤ 3 by decide) cells) (Nat.add_le_add_left (show 6 ≤ 18 by decide) slots) (kk M' N' w9 r hO hG')
set_option maxRecDepth 100000 in
set_option maxHeartbeats 4000000 in
theorem law_group {b Ls n : Nat} {xs : Nat → Int32} {M N : dM} {w : Int64} {z : Int32} {cells slots : Nat} (hLs : Ls ≤ 2048) (hi : 4 * n + 4 ≤ Ls) (hn : n < 512) (h : Ok n M N) (hG : Gd z N) (hc : cells + 3 ≤ 612755) (hs : slots + 18 ≤ 7257839)
    (kk : ∀ (M' N' : dM) (w' : Int64) (z' : Int32), Ok (n + 1) M' N' → Gd z' N' → PW (kL_law b Ls xs) false 0 lwP lwT 928 [some (.retAddr b), some (.ref 0), some (.ref 44), some (.ref 65), some (.int (nI (4 * n))), none, none] [] (SM M' ++ (MM N' ++ ((101, [.long w']) :: []))) (cells + 3) (slots + 18)) :
    PW (kL_law b Ls xs) false 0 lwP lwT 512 [some (.retAddr b), some (.ref 0), some (.ref 44), some (.ref 65), some (.int (nI (4 * n))), none, none] [] (SM M ++ (MM N ++ ((101, [.long w]) :: []))) cells slots := by
  refine PW.aload_n (i := 1) dL_law_512 rfl rfl ?_
  refine PW.aload_nA (i := 0) dL_law_513 rfl rfl ?_
  refine PW.iload dL_law_514 rfl ?_
  refine PW.iconst (v := 1) dL_law_516 (by decide) ?_
  refine PW.iadd dL_law_517 ?_
  refine PW.sld (n := 4 * n + 1) rfl dL_law_518 (nI_add _ 1) (by omega) (by omega) rfl ?_
  refine PW.aload_nA (i := 0) dL_law_519 rfl rfl ?_
  refine PW.iload dL_law_520 rfl ?_
  refine PW.iconst (v := 2) dL_law_522 (by decide) ?_
  refine PW.iadd dL_law_523 ?_
  refine PW.sld (n := 4 * n + 2) rfl dL_law_524 (nI_add _ 2) (by omega) (by omega) rfl ?_
  refine PW.aload_nA (i := 0) dL_law_525 rfl rfl ?_
  refine PW.iload dL_law_526 rfl ?_
  refine PW.iconst (v := 3) dL_law_528 (by decide) ?_
  refine PW.iadd dL_law_529 ?_
  refine PW.sld (n := 4 * n + 3) rfl dL_law_530 (nI_add _ 3) (by omega) (by omega) rfl ?_
  refine PW.aload_n (i := 3) dL_law_531 rfl rfl ?_
  refine PW.callSW (k := (kL_law b Ls xs)) (n := 5) (hhl := [(0, 12, 15, 13), (0, 12, 19, 15)]) (h_group (xs (4 * n + 1)) (xs (4 * n + 2)) (xs (4 * n + 3)) h.2.1 w) dL_law_532 gL_law_L_group rfl hdL_group rfl ⟨(Nat.le_of_ble_eq_true rfl), (Nat.le_of_ble_eq_true rfl)⟩ ⟨rfl, rfl⟩ (Nat.le_of_ble_eq_true rfl) ⟨Nat.le_trans (Nat.add_le_add_left (show 3 ≤ 3 by decide) cells) hc, Nat.le_trans (Nat.add_le_add_left (show 18 ≤ 18 by decide) slots) hs⟩ rfl (fun v m9 hp => ?_) (fun _ _ hx => hx.elim)
  obtain ⟨r, a, M', w9, hH, rfl, rfl, hw9⟩ := hp
  obtain ⟨v9, N', hm, hG', hra, hO⟩ := b_group h hn hG hH
  refine PW.istore dL_law_535 (Nat.le_of_ble_eq_true rfl) rfl ?_
  refine PW.aload_n (i := 2) dL_law_537 rfl rfl ?_
  refine PW.aload_nA (i := 0) dL_law_538 rfl rfl ?_
  refine PW.iload dL_law_539 rfl ?_
  refine PW.iconst (v := 1) dL_law_541 (by decide) ?_
  refine PW.iadd dL_law_542 ?_
  refine PW.sld (n := 4 * n + 1) rfl dL_law_543 (nI_add _ 1) (by omega) (by omega) rfl ?_
  refine PW.aload_nA (i := 0) dL_law_544 rfl rfl ?_
  refine PW.iload dL_law_545 rfl ?_
  refine PW.iconst (v := 2) dL_law_547 (by decide) ?_
  refine PW.iadd dL_law_548 ?_
  refine PW.sld (n := 4 * n + 2) rfl dL_law_549 (nI_add _ 2) (by omega) (by omega) rfl ?_
  refine PW.aload_nA (i := 0) dL_law_550 rfl rfl ?_
  refine PW.iload dL_law_551 rfl ?_
  refine PW.iconst (v := 3) dL_law_553 (by decide) ?_
  refine PW.iadd dL_law_554 ?_
  refine PW.sld (n := 4 * n + 3) rfl dL_law_555 (nI_add _ 3) (by omega) (by omega) rfl ?_
  refine PW.callV (k := (kL_law b Ls xs)) (n := 3) (k' := kX5_group) (hm _) dL_law_556 gL_law_X5_group rfl hd_X5_group rfl ⟨(Nat.le_of_ble_eq_true rfl), (Nat.le_of_ble_eq_true rfl)⟩ ⟨rfl, rfl⟩ (Nat.le_of_ble_eq_true rfl) ⟨Nat.le_trans (Nat.add_le_add_left (show 3 ≤ 3 by decide) cells) hc, Nat.le_trans (Nat.add_le_add_left (show 18 ≤ 18 by decide) slots) hs⟩ sm_mod (by decide) rfl rfl (fun v m9 hp => ?_) (fun _ _ hx => hx.elim)
  obtain ⟨rfl, rfl⟩ := hp
  refine PW.istore dL_law_559 (Nat.le_of_ble_eq_true rfl) rfl ?_
  refine PW.aload_n (i := 2) dL_law_561 rfl rfl ?_
  refine PW.callV (k := (kL_law b Ls xs)) (n := 0) c5_thrown dL_law_562 gL_law_X5_thrown rfl hd_X5_thrown rfl ⟨(Nat.le_of_ble_eq_true rfl), (Nat.le_of_ble_eq_true rfl)⟩ ⟨rfl, rfl⟩ (Nat.le_of_ble_eq_true rfl) ⟨Nat.le_trans (Nat.add_le_add_left (show 3 ≤ 3 by decide) cells) hc, Nat.le_trans (Nat.add_le_add_left (show 18 ≤ 18 by decide) slots) hs⟩ sm_mod (by decide) rfl rfl (fun v m9 hp => ?_) (fun _ _ hx => hx.elim)
  obtain ⟨rfl, rfl⟩ := hp
  refine PW.iload dL_law_565 rfl ?_
  refine PW.icmp_eq (tgt := 572) dL_law_567 (by decide) (fun _ => ?_) (fun q9 => absurd hG'.2.2.2 q9)
  refine PW.iload dL_law_572 rfl ?_
  refine PW.if_ne (tgt := 589) dL_law_574 (by decide) (fun _ => ?_) (fun q9 => ?_)
  · refine PW.goto (tgt := 928) dL_law_589 (by decide) ?_
    refine PW.forget lw_forget ?_
    exact PW.widen (Nat.add_le_add_left (show 3 ≤ 3 by decide) cells) (Nat.add_le_add_left (show 18 ≤ 18 by decide) slots) (kk M' N' w9 r hO hG')
  · refine PW.aload_n (i := 3) dL_law_577 rfl rfl ?_
    refine PW.iconst (v := 0) dL_law_578 (by decide) ?_
    refine PW.lald (n := 0) dL_law_579 sm_out rfl (by decide) rfl ?_
    refine PW.iload dL_law_580 rfl ?_
    refine PW.i2l dL_law_582 ?_
    refine PW.lcmpE dL_law_583 (by rw [hw9 q9, hra q9]) ?_
    refine PW.if_eq (tgt := 589) dL_law_584 (by decide) (fun _ => ?_) (fun q8 => absurd rfl q8)
    refine PW.goto (tgt := 928) dL_law_589 (by decide) ?_
    refine PW.forget lw_forget ?_
    exact PW.widen (Nat.add_le_add_left (show 3 ≤ 3 by decide) cells) (Nat.add_le_add_left (show 18 ≤ 18 by decide) slots) (kk M' N' w9 r hO hG')
set_option maxRecDepth 100000 in
set_option maxHeartbeats 4000000 in
theorem law_slot {b Ls n : Nat} {xs : Nat → Int32} {M N : dM} {w : Int64} {z : Int32} {cells slots : Nat} (hLs : Ls ≤ 2048) (hi : 4 * n + 4 ≤ Ls) (hn : n < 512) (h : Ok n M N) (hG : Gd z N) (hc : cells + 3 ≤ 612755) (hs : slots + 18 ≤ 7257839)
    (kk : ∀ (M' N' : dM) (w' : Int64) (z' : Int32), Ok (n + 1) M' N' → Gd z' N' → PW (kL_law b Ls xs) false 0 lwP lwT 928 [some (.retAddr b), some (.ref 0), some (.ref 44), some (.ref 65), some (.int (nI (4 * n))), none, none] [] (SM M' ++ (MM N' ++ ((101, [.long w']) :: []))) (cells + 3) (slots + 18)) :
    PW (kL_law b Ls xs) false 0 lwP lwT 592 [some (.retAddr b), some (.ref 0), some (.ref 44), some (.ref 65), some (.int (nI (4 * n))), none, none] [] (SM M ++ (MM N ++ ((101, [.long w]) :: []))) cells slots := by
  by_cases q : xs (4 * n + 3) = 0
  · refine PW.aload_n (i := 1) dL_law_592 rfl rfl ?_
    refine PW.aload_nA (i := 0) dL_law_593 rfl rfl ?_
    refine PW.iload dL_law_594 rfl ?_
    refine PW.iconst (v := 1) dL_law_596 (by decide) ?_
    refine PW.iadd dL_law_597 ?_
    refine PW.sld (n := 4 * n + 1) rfl dL_law_598 (nI_add _ 1) (by omega) (by omega) rfl ?_
    refine PW.aload_nA (i := 0) dL_law_599 rfl rfl ?_
    refine PW.iload dL_law_600 rfl ?_
    refine PW.iconst (v := 2) dL_law_602 (by decide) ?_
    refine PW.iadd dL_law_603 ?_
    refine PW.sld (n := 4 * n + 2) rfl dL_law_604 (nI_add _ 2) (by omega) (by omega) rfl ?_
    refine PW.aload_nA (i := 0) dL_law_605 rfl rfl ?_
    refine PW.iload dL_law_606 rfl ?_
    refine PW.iconst (v := 3) dL_law_608 (by decide) ?_
    refine PW.iadd dL_law_609 ?_
    refine PW.sld (n := 4 * n + 3) rfl dL_law_610 (nI_add _ 3) (by omega) (by omega) rfl ?_
    refine PW.if_eq (tgt := 618) dL_law_611 (by decide) (fun _ => ?_) (fun q9 => absurd q q9)
    refine PW.iconst (v := 0) dL_law_618 (by decide) ?_
    refine PW.callSW (k := (kL_law b Ls xs)) (n := 4) (hhl := [(0, 7, 10, 13), (0, 7, 14, 15)]) (h_slot (xs (4 * n + 1)) (xs (4 * n + 2)) 0 ) dL_law_619 gL_law_L_slot rfl hdL_slot rfl ⟨(Nat.le_of_ble_eq_true rfl), (Nat.le_of_ble_eq_true rfl)⟩ ⟨rfl, rfl⟩ (Nat.le_of_ble_eq_true rfl) ⟨Nat.le_trans (Nat.add_le_add_left (show 2 ≤ 3 by decide) cells) hc, Nat.le_trans (Nat.add_le_add_left (show 12 ≤ 18 by decide) slots) hs⟩ rfl (fun v m9 hp => ?_) (fun _ _ hx => hx.elim)
    obtain ⟨r, a, M', hH, rfl, rfl⟩ := hp
    obtain ⟨N', hm, hG', hO⟩ := b_slot h hn hG hH
    refine PW.istore dL_law_622 (Nat.le_of_ble_eq_true rfl) rfl ?_
    refine PW.aload_n (i := 2) dL_law_624 rfl rfl ?_
    refine PW.aload_nA (i := 0) dL_law_625 rfl rfl ?_
    refine PW.iload dL_law_626 rfl ?_
    refine PW.iconst (v := 1) dL_law_628 (by decide) ?_
    refine PW.iadd dL_law_629 ?_
    refine PW.sld (n := 4 * n + 1) rfl dL_law_630 (nI_add _ 1) (by omega) (by omega) rfl ?_
    refine PW.aload_nA (i := 0) dL_law_631 rfl rfl ?_
    refine PW.iload dL_law_632 rfl ?_
    refine PW.iconst (v := 2) dL_law_634 (by decide) ?_
    refine PW.iadd dL_law_635 ?_
    refine PW.sld (n := 4 * n + 2) rfl dL_law_636 (nI_add _ 2) (by omega) (by omega) rfl ?_
    refine PW.aload_nA (i := 0) dL_law_637 rfl rfl ?_
    refine PW.iload dL_law_638 rfl ?_
    refine PW.iconst (v := 3) dL_law_640 (by decide) ?_
    refine PW.iadd dL_law_641 ?_
    refine PW.sld (n := 4 * n + 3) rfl dL_law_642 (nI_add _ 3) (by omega) (by omega) rfl ?_
    refine PW.if_eq (tgt := 650) dL_law_643 (by decide) (fun _ => ?_) (fun q9 => absurd q q9)
    refine PW.iconst (v := 0) dL_law_650 (by decide) ?_
    refine PW.callV (k := (kL_law b Ls xs)) (n := 3) (k' := kX5_slot) (hm _) dL_law_651 gL_law_X5_slot rfl hd_X5_slot rfl ⟨(Nat.le_of_ble_eq_true rfl), (Nat.le_of_ble_eq_true rfl)⟩ ⟨rfl, rfl⟩ (Nat.le_of_ble_eq_true rfl) ⟨Nat.le_trans (Nat.add_le_add_left (show 2 ≤ 3 by decide) cells) hc, Nat.le_trans (Nat.add_le_add_left (show 12 ≤ 18 by decide) slots) hs⟩ sm_mod (by decide) rfl rfl (fun v m9 hp => ?_) (fun _ _ hx => hx.elim)
    obtain ⟨rfl, rfl⟩ := hp
    refine PW.aload_n (i := 2) dL_law_654 rfl rfl ?_
    refine PW.callV (k := (kL_law b Ls xs)) (n := 0) c5_thrown dL_law_655 gL_law_X5_thrown rfl hd_X5_thrown rfl ⟨(Nat.le_of_ble_eq_true rfl), (Nat.le_of_ble_eq_true rfl)⟩ ⟨rfl, rfl⟩ (Nat.le_of_ble_eq_true rfl) ⟨Nat.le_trans (Nat.add_le_add_left (show 2 ≤ 3 by decide) cells) hc, Nat.le_trans (Nat.add_le_add_left (show 12 ≤ 18 by decide) slots) hs⟩ sm_mod (by decide) rfl rfl (fun v m9 hp => ?_) (fun _ _ hx => hx.elim)
    obtain ⟨rfl, rfl⟩ := hp
    refine PW.iload dL_law_658 rfl ?_
    refine PW.icmp_eq (tgt := 665) dL_law_660 (by decide) (fun _ => ?_) (fun q9 => absurd hG'.2.2.2 q9)
    refine PW.goto (tgt := 928) dL_law_665 (by decide) ?_
    refine PW.forget lw_forget ?_
    exact PW.widen (Nat.add_le_add_left (show 2 ≤ 3 by decide) cells) (Nat.add_le_add_left (show 12 ≤ 18 by decide) slots) (kk M' N' w r hO hG')
  · refine PW.aload_n (i := 1) dL_law_592 rfl rfl ?_
    refine PW.aload_nA (i := 0) dL_law_593 rfl rfl ?_
    refine PW.iload dL_law_594 rfl ?_
    refine PW.iconst (v := 1) dL_law_596 (by decide) ?_
    refine PW.iadd dL_law_597 ?_
    refine PW.sld (n := 4 * n + 1) rfl dL_law_598 (nI_add _ 1) (by omega) (by omega) rfl ?_
    refine PW.aload_nA (i := 0) dL_law_599 rfl rfl ?_
    refine PW.iload dL_law_600 rfl ?_
    refine PW.iconst (v := 2) dL_law_602 (by decide) ?_
    refine PW.iadd dL_law_603 ?_
    refine PW.sld (n := 4 * n + 2) rfl dL_law_604 (nI_add _ 2) (by omega) (by omega) rfl ?_
    refine PW.aload_nA (i := 0) dL_law_605 rfl rfl ?_
    refine PW.iload dL_law_606 rfl ?_
    refine PW.iconst (v := 3) dL_law_608 (by decide) ?_
    refine PW.iadd dL_law_609 ?_
    refine PW.sld (n := 4 * n + 3) rfl dL_law_610 (nI_add _ 3) (by omega) (by omega) rfl ?_
    refine PW.if_eq (tgt := 618) dL_law_611 (by decide) (fun q9 => absurd q9 q) (fun _ => ?_)
    refine PW.iconst (v := 1) dL_law_614 (by decide) ?_
    refine PW.goto (tgt := 619) dL_law_615 (by decide) ?_
    refine PW.callSW (k := (kL_law b Ls xs)) (n := 4) (hhl := [(0, 7, 10, 13), (0, 7, 14, 15)]) (h_slot (xs (4 * n + 1)) (xs (4 * n + 2)) 1 ) dL_law_619 gL_law_L_slot rfl hdL_slot rfl ⟨(Nat.le_of_ble_eq_true rfl), (Nat.le_of_ble_eq_true rfl)⟩ ⟨rfl, rfl⟩ (Nat.le_of_ble_eq_true rfl) ⟨Nat.le_trans (Nat.add_le_add_left (show 2 ≤ 3 by decide) cells) hc, Nat.le_trans (Nat.add_le_add_left (show 12 ≤ 18 by decide) slots) hs⟩ rfl (fun v m9 hp => ?_) (fun _ _ hx => hx.elim)
    obtain ⟨r, a, M', hH, rfl, rfl⟩ := hp
    obtain ⟨N', hm, hG', hO⟩ := b_slot h hn hG hH
    refine PW.istore dL_law_622 (Nat.le_of_ble_eq_true rfl) rfl ?_
    refine PW.aload_n (i := 2) dL_law_624 rfl rfl ?_
    refine PW.aload_nA (i := 0) dL_law_625 rfl rfl ?_
    refine PW.iload dL_law_626 rfl ?_
    refine PW.iconst (v := 1) dL_law_628 (by decide) ?_
    refine PW.iadd dL_law_629 ?_
    refine PW.sld (n := 4 * n + 1) rfl dL_law_630 (nI_add _ 1) (by omega) (by omega) rfl ?_
    refine PW.aload_nA (i := 0) dL_law_631 rfl rfl ?_
    refine PW.iload dL_law_632 rfl ?_
    refine PW.iconst (v := 2) dL_law_634 (by decide) ?_
    refine PW.iadd dL_law_635 ?_
    refine PW.sld (n := 4 * n + 2) rfl dL_law_636 (nI_add _ 2) (by omega) (by omega) rfl ?_
    refine PW.aload_nA (i := 0) dL_law_637 rfl rfl ?_
    refine PW.iload dL_law_638 rfl ?_
    refine PW.iconst (v := 3) dL_law_640 (by decide) ?_
    refine PW.iadd dL_law_641 ?_
    refine PW.sld (n := 4 * n + 3) rfl dL_law_642 (nI_add _ 3) (by omega) (by omega) rfl ?_
    refine PW.if_eq (tgt := 650) dL_law_643 (by decide) (fun q9 => absurd q9 q) (fun _ => ?_)
    refine PW.iconst (v := 1) dL_law_646 (by decide) ?_
    refine PW.goto (tgt := 651) dL_law_647 (by decide) ?_
    refine PW.callV (k := (kL_law b Ls xs)) (n := 3) (k' := kX5_slot) (hm _) dL_law_651 gL_law_X5_slot rfl hd_X5_slot rfl ⟨(Nat.le_of_ble_eq_true rfl), (Nat.le_of_ble_eq_true rfl)⟩ ⟨rfl, rfl⟩ (Nat.le_of_ble_eq_true rfl) ⟨Nat.le_trans (Nat.add_le_add_left (show 2 ≤ 3 by decide) cells) hc, Nat.le_trans (Nat.add_le_add_left (show 12 ≤ 18 by decide) slots) hs⟩ sm_mod (by decide) rfl rfl (fun v m9 hp => ?_) (fun _ _ hx => hx.elim)
    obtain ⟨rfl, rfl⟩ := hp
    refine PW.aload_n (i := 2) dL_law_654 rfl rfl ?_
    refine PW.callV (k := (kL_law b Ls xs)) (n := 0) c5_thrown dL_law_655 gL_law_X5_thrown rfl hd_X5_thrown rfl ⟨(Nat.le_of_ble_eq_true rfl), (Nat.le_of_ble_eq_true rfl)⟩ ⟨rfl, rfl⟩ (Nat.le_of_ble_eq_true rfl) ⟨Nat.le_trans (Nat.add_le_add_left (show 2 ≤ 3 by decide) cells) hc, Nat.le_trans (Nat.add_le_add_left (show 12 ≤ 18 by decide) slots) hs⟩ sm_mod (by decide) rfl rfl (fun v m9 hp => ?_) (fun _ _ hx => hx.elim)
    obtain ⟨rfl, rfl⟩ := hp
    refine PW.iload dL_law_658 rfl ?_
    refine PW.icmp_eq (tgt := 665) dL_law_660 (by decide) (fun _ => ?_) (fun q9 => absurd hG'.2.2.2 q9)
    refine PW.goto (tgt := 928) dL_law_665 (by decide) ?_
    refine PW.forget lw_forget ?_
    exact PW.widen (Nat.add_le_add_left (show 2 ≤ 3 by decide) cells) (Nat.add_le_add_left (show 12 ≤ 18 by decide) slots) (kk M' N' w r hO hG')
