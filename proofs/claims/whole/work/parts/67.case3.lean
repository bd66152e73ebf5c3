/-! THE LAW'S CASES -/
set_option maxRecDepth 100000 in
set_option maxHeartbeats 4000000 in
theorem law_carries {b Ls n : Nat} {xs : Nat → Int32} {M N : dM} {w : Int64} {z : Int32} {cells slots : Nat} (hLs : Ls ≤ 2048) (hi : 4 * n + 4 ≤ Ls) (hn : n < 512) (h : Ok n M N) (hG : Gd z N) (hc : cells + 3 ≤ 612755) (hs : slots + 18 ≤ 7257839)
    (kk : ∀ (M' N' : dM) (w' : Int64) (z' : Int32), Ok (n + 1) M' N' → Gd z' N' → PW (kL_law b Ls xs) false 0 lwP lwT 928 [some (.retAddr b), some (.ref 0), some (.ref 44), some (.ref 65), some (.int (nI (4 * n))), none, none] [] (SM M' ++ (MM N' ++ ((101, [.long w']) :: []))) (cells + 3) (slots + 18)) :
    PW (kL_law b Ls xs) false 0 lwP lwT 668 [some (.retAddr b), some (.ref 0), some (.ref 44), some (.ref 65), some (.int (nI (4 * n))), none, none] [] (SM M ++ (MM N ++ ((101, [.long w]) :: []))) cells slots := by
  refine PW.aload_n (i := 1) dL_law_668 rfl rfl ?_
  refine PW.aload_nA (i := 0) dL_law_669 rfl rfl ?_
  refine PW.iload dL_law_670 rfl ?_
  refine PW.iconst (v := 1) dL_law_672 (by decide) ?_
  refine PW.iadd dL_law_673 ?_
  refine PW.sld (n := 4 * n + 1) rfl dL_law_674 (nI_add _ 1) (by omega) (by omega) rfl ?_
  refine PW.aload_nA (i := 0) dL_law_675 rfl rfl ?_
  refine PW.iload dL_law_676 rfl ?_
  refine PW.iconst (v := 2) dL_law_678 (by decide) ?_
  refine PW.iadd dL_law_679 ?_
  refine PW.sld (n := 4 * n + 2) rfl dL_law_680 (nI_add _ 2) (by omega) (by omega) rfl ?_
  refine PW.aload_n (i := 3) dL_law_681 rfl rfl ?_
  refine PW.callSW (k := (kL_law b Ls xs)) (n := 4) (hhl := [(0, 10, 13, 13)]) (h_carries (xs (4 * n + 1)) (xs (4 * n + 2))  w) dL_law_682 gL_law_L_carries rfl hdL_carries rfl ⟨(Nat.le_of_ble_eq_true rfl), (Nat.le_of_ble_eq_true rfl)⟩ ⟨rfl, rfl⟩ (Nat.le_of_ble_eq_true rfl) ⟨Nat.le_trans (Nat.add_le_add_left (show 1 ≤ 3 by decide) cells) hc, Nat.le_trans (Nat.add_le_add_left (show 6 ≤ 18 by decide) slots) hs⟩ rfl (fun v m9 hp => ?_) (fun _ _ hx => hx.elim)
  obtain ⟨r, a, M', w9, hH, rfl, rfl, hw9⟩ := hp
  obtain ⟨v9, N', hm, hG', hra, hO⟩ := b_carries h hn hG hH
  refine PW.istore dL_law_685 (Nat.le_of_ble_eq_true rfl) rfl ?_
  refine PW.aload_n (i := 2) dL_law_687 rfl rfl ?_
  refine PW.aload_nA (i := 0) dL_law_688 rfl rfl ?_
  refine PW.iload dL_law_689 rfl ?_
  refine PW.iconst (v := 1) dL_law_691 (by decide) ?_
  refine PW.iadd dL_law_692 ?_
  refine PW.sld (n := 4 * n + 1) rfl dL_law_693 (nI_add _ 1) (by omega) (by omega) rfl ?_
  refine PW.aload_nA (i := 0) dL_law_694 rfl rfl ?_
  refine PW.iload dL_law_695 rfl ?_
  refine PW.iconst (v := 2) dL_law_697 (by decide) ?_
  refine PW.iadd dL_law_698 ?_
  refine PW.sld (n := 4 * n + 2) rfl dL_law_699 (nI_add _ 2) (by omega) (by omega) rfl ?_
  refine PW.callV (k := (kL_law b Ls xs)) (n := 2) (k' := kX5_carries) (hm _) dL_law_700 gL_law_X5_carries rfl hd_X5_carries rfl ⟨(Nat.le_of_ble_eq_true rfl), (Nat.le_of_ble_eq_true rfl)⟩ ⟨rfl, rfl⟩ (Nat.le_of_ble_eq_true rfl) ⟨Nat.le_trans (Nat.add_le_add_left (show 1 ≤ 3 by decide) cells) hc, Nat.le_trans (Nat.add_le_add_left (show 6 ≤ 18 by decide) slots) hs⟩ sm_mod (by decide) rfl rfl (fun v m9 hp => ?_) (fun _ _ hx => hx.elim)
  obtain ⟨rfl, rfl⟩ := hp
  refine PW.istore dL_law_703 (Nat.le_of_ble_eq_true rfl) rfl ?_
  refine PW.aload_n (i := 2) dL_law_705 rfl rfl ?_
  refine PW.callV (k := (kL_law b Ls xs)) (n := 0) c5_thrown dL_law_706 gL_law_X5_thrown rfl hd_X5_thrown rfl ⟨(Nat.le_of_ble_eq_true rfl), (Nat.le_of_ble_eq_true rfl)⟩ ⟨rfl, rfl⟩ (Nat.le_of_ble_eq_true rfl) ⟨Nat.le_trans (Nat.add_le_add_left (show 1 ≤ 3 by decide) cells) hc, Nat.le_trans (Nat.add_le_add_left (show 6 ≤ 18 by decide) slots) hs⟩ sm_mod (by decide) rfl rfl (fun v m9 hp => ?_) (fun _ _ hx => hx.elim)
  obtain ⟨rfl, rfl⟩ := hp
  refine PW.iload dL_law_709 rfl ?_
  refine PW.icmp_eq (tgt := 716) dL_law_711 (by decide) (fun _ => ?_) (fun q9 => absurd hG'.2.2.2 q9)
  refine PW.iload dL_law_716 rfl ?_
  refine PW.if_ne (tgt := 733) dL_law_718 (by decide) (fun _ => ?_) (fun q9 => ?_)
  · refine PW.goto (tgt := 928) dL_law_733 (by decide) ?_
    refine PW.forget lw_forget ?_
    exact PW.widen (Nat.add_le_add_left (show 1 ≤ 3 by decide) cells) (Nat.add_le_add_left (show 6 ≤ 18 by decide) slots) (kk M' N' w9 r hO hG')
  · refine PW.aload_n (i := 3) dL_law_721 rfl rfl ?_
    refine PW.iconst (v := 0) dL_law_722 (by decide) ?_
    refine PW.lald (n := 0) dL_law_723 sm_out rfl (by decide) rfl ?_
    refine PW.iload dL_law_724 rfl ?_
    refine PW.i2l dL_law_726 ?_
    refine PW.lcmpE dL_law_727 (by rw [hw9 q9, hra q9]) ?_
    refine PW.if_eq (tgt := 733) dL_law_728 (by decide) (fun _ => ?_) (fun q8 => absurd rfl q8)
    refine PW.goto (tgt := 928) dL_law_733 (by decide) ?_
    refine PW.forget lw_forget ?_
    exact PW.widen (Nat.add_le_add_left (show 1 ≤ 3 by decide) cells) (Nat.add_le_add_left (show 6 ≤ 18 by decide) slots) (kk M' N' w9 r hO hG')
set_option maxRecDepth 100000 in
set_option maxHeartbeats 4000000 in
theorem law_line {b Ls n : Nat} {xs : Nat → Int32} {M N : dM} {w : Int64} {z : Int32} {cells slots : Nat} (hLs : Ls ≤ 2048) (hi : 4 * n + 4 ≤ Ls) (hn : n < 512) (h : Ok n M N) (hG : Gd z N) (hc : cells + 3 ≤ 612755) (hs : slots + 18 ≤ 7257839)
    (kk : ∀ (M' N' : dM) (w' : Int64) (z' : Int32), Ok (n + 1) M' N' → Gd z' N' → PW (kL_law b Ls xs) false 0 lwP lwT 928 [some (.retAddr b), some (.ref 0), some (.ref 44), some (.ref 65), some (.int (nI (4 * n))), none, none] [] (SM M' ++ (MM N' ++ ((101, [.long w']) :: []))) (cells + 3) (slots + 18)) :
    PW (kL_law b Ls xs) false 0 lwP lwT 736 [some (.retAddr b), some (.ref 0), some (.ref 44), some (.ref 65), some (.int (nI (4 * n))), none, none] [] (SM M ++ (MM N ++ ((101, [.long w]) :: []))) cells slots := by
  refine PW.aload_n (i := 1) dL_law_736 rfl rfl ?_
  refine PW.aload_nA (i := 0) dL_law_737 rfl rfl ?_
  refine PW.iload dL_law_738 rfl ?_
  refine PW.iconst (v := 1) dL_law_740 (by decide) ?_
  refine PW.iadd dL_law_741 ?_
  refine PW.sld (n := 4 * n + 1) rfl dL_law_742 (nI_add _ 1) (by omega) (by omega) rfl ?_
  refine PW.aload_nA (i := 0) dL_law_743 rfl rfl ?_
  refine PW.iload dL_law_744 rfl ?_
  refine PW.iconst (v := 2) dL_law_746 (by decide) ?_
  refine PW.iadd dL_law_747 ?_
  refine PW.sld (n := 4 * n + 2) rfl dL_law_748 (nI_add _ 2) (by omega) (by omega) rfl ?_
  refine PW.aload_n (i := 3) dL_law_749 rfl rfl ?_
  refine PW.callSW (k := (kL_law b Ls xs)) (n := 4) (hhl := [(0, 10, 13, 13)]) (h_line (xs (4 * n + 1)) (xs (4 * n + 2))  w) dL_law_750 gL_law_L_line rfl hdL_line rfl ⟨(Nat.le_of_ble_eq_true rfl), (Nat.le_of_ble_eq_true rfl)⟩ ⟨rfl, rfl⟩ (Nat.le_of_ble_eq_true rfl) ⟨Nat.le_trans (Nat.add_le_add_left (show 2 ≤ 3 by decide) cells) hc, Nat.le_trans (Nat.add_le_add_left (show 12 ≤ 18 by decide) slots) hs⟩ rfl (fun v m9 hp => ?_) (fun _ _ hx => hx.elim)
  obtain ⟨r, a, M', w9, hH, rfl, rfl, hw9⟩ := hp
  obtain ⟨v9, N', hm, hG', hra, hO⟩ := b_line h hn hG hH
  refine PW.istore dL_law_753 (Nat.le_of_ble_eq_true rfl) rfl ?_
  refine PW.aload_n (i := 2) dL_law_755 rfl rfl ?_
  refine PW.aload_nA (i := 0) dL_law_756 rfl rfl ?_
  refine PW.iload dL_law_757 rfl ?_
  refine PW.iconst (v := 1) dL_law_759 (by decide) ?_
  refine PW.iadd dL_law_760 ?_
  refine PW.sld (n := 4 * n + 1) rfl dL_law_761 (nI_add _ 1) (by omega) (by omega) rfl ?_
  refine PW.aload_nA (i := 0) dL_law_762 rfl rfl ?_
  refine PW.iload dL_law_763 rfl ?_
  refine PW.iconst (v := 2) dL_law_765 (by decide) ?_
  refine PW.iadd dL_law_766 ?_
  refine PW.sld (n := 4 * n + 2) rfl dL_law_767 (nI_add _ 2) (by omega) (by omega) rfl ?_
  refine PW.callV (k := (kL_law b Ls xs)) (n := 2) (k' := kX5_line) (hm _) dL_law_768 gL_law_X5_line rfl hd_X5_line rfl ⟨(Nat.le_of_ble_eq_true rfl), (Nat.le_of_ble_eq_true rfl)⟩ ⟨rfl, rfl⟩ (Nat.le_of_ble_eq_true rfl) ⟨Nat.le_trans (Nat.add_le_add_left (show 2 ≤ 3 by decide) cells) hc, Nat.le_trans (Nat.add_le_add_left (show 12 ≤ 18 by decide) slots) hs⟩ sm_mod (by decide) rfl rfl (fun v m9 hp => ?_) (fun _ _ hx => hx.elim)
  obtain ⟨rfl, rfl⟩ := hp
  refine PW.istore dL_law_771 (Nat.le_of_ble_eq_true rfl) rfl ?_
  refine PW.aload_n (i := 2) dL_law_773 rfl rfl ?_
  refine PW.callV (k := (kL_law b Ls xs)) (n := 0) c5_thrown dL_law_774 gL_law_X5_thrown rfl hd_X5_thrown rfl ⟨(Nat.le_of_ble_eq_true rfl), (Nat.le_of_ble_eq_true rfl)⟩ ⟨rfl, rfl⟩ (Nat.le_of_ble_eq_true rfl) ⟨Nat.le_trans (Nat.add_le_add_left (show 2 ≤ 3 by decide) cells) hc, Nat.le_trans (Nat.add_le_add_left (show 12 ≤ 18 by decide) slots) hs⟩ sm_mod (by decide) rfl rfl (fun v m9 hp => ?_) (fun _ _ hx => hx.elim)
  obtain ⟨rfl, rfl⟩ := hp
  refine PW.iload dL_law_777 rfl ?_
  refine PW.icmp_eq (tgt := 784) dL_law_779 (by decide) (fun _ => ?_) (fun q9 => absurd hG'.2.2.2 q9)
  refine PW.iload dL_law_784 rfl ?_
  refine PW.if_ne (tgt := 801) dL_law_786 (by decide) (fun _ => ?_) (fun q9 => ?_)
  · refine PW.goto (tgt := 928) dL_law_801 (by decide) ?_
    refine PW.forget lw_forget ?_
    exact PW.widen (Nat.add_le_add_left (show 2 ≤ 3 by decide) cells) (Nat.add_le_add_left (show 12 ≤ 18 by decide) slots) (kk M' N' w9 r hO hG')
  · refine PW.aload_n (i := 3) dL_law_789 rfl rfl ?_
    refine PW.iconst (v := 0) dL_law_790 (by decide) ?_
    refine PW.lald (n := 0) dL_law_791 sm_out rfl (by decide) rfl ?_
    refine PW.iload dL_law_792 rfl ?_
    refine PW.i2l dL_law_794 ?_
    refine PW.lcmpE dL_law_795 (by rw [hw9 q9, hra q9]) ?_
    refine PW.if_eq (tgt := 801) dL_law_796 (by decide) (fun _ => ?_) (fun q8 => absurd rfl q8)
    refine PW.goto (tgt := 928) dL_law_801 (by decide) ?_
    refine PW.forget lw_forget ?_
    exact PW.widen (Nat.add_le_add_left (show 2 ≤ 3 by decide) cells) (Nat.add_le_add_left (show 12 ≤ 18 by decide) slots) (kk M' N' w9 r hO hG')
set_option maxRecDepth 100000 in
set_option maxHeartbeats 4000000 in
theorem law_count {b Ls n : Nat} {xs : Nat → Int32} {M N : dM} {w : Int64} {z : Int32} {cells slots : Nat} (hLs : Ls ≤ 2048) (hi : 4 * n + 4 ≤ Ls) (hn : n < 512) (h : Ok n M N) (hG : Gd z N) (hc : cells + 3 ≤ 612755) (hs : slots + 18 ≤ 7257839)
    (kk : ∀ (M' N' : dM) (w' : Int64) (z' : Int32), Ok (n + 1) M' N' → Gd z' N' → PW (kL_law b Ls xs) false 0 lwP lwT 928 [some (.retAddr b), some (.ref 0), some (.ref 44), some (.ref 65), some (.int (nI (4 * n))), none, none] [] (SM M' ++ (MM N' ++ ((101, [.long w']) :: []))) (cells + 3) (slots + 18)) :
    PW (kL_law b Ls xs) false 0 lwP lwT 804 [some (.retAddr b), some (.ref 0), some (.ref 44), some (.ref 65), some (.int (nI (4 * n))), none, none] [] (SM M ++ (MM N ++ ((101, [.long w]) :: []))) cells slots := by
  refine PW.aload_n (i := 1) dL_law_804 rfl rfl ?_
  refine PW.aload_nA (i := 0) dL_law_805 rfl rfl ?_
  refine PW.iload dL_law_806 rfl ?_
  refine PW.iconst (v := 1) dL_law_808 (by decide) ?_
  refine PW.iadd dL_law_809 ?_
  refine PW.sld (n := 4 * n + 1) rfl dL_law_810 (nI_add _ 1) (by omega) (by omega) rfl ?_
  refine PW.aload_n (i := 3) dL_law_811 rfl rfl ?_
  refine PW.callSW (k := (kL_law b Ls xs)) (n := 3) (hhl := [(0, 9, 12, 13)]) (h_count (xs (4 * n + 1))  w) dL_law_812 gL_law_L_count rfl hdL_count rfl ⟨(Nat.le_of_ble_eq_true rfl), (Nat.le_of_ble_eq_true rfl)⟩ ⟨rfl, rfl⟩ (Nat.le_of_ble_eq_true rfl) ⟨Nat.le_trans (Nat.add_le_add_left (show 1 ≤ 3 by decide) cells) hc, Nat.le_trans (Nat.add_le_add_left (show 6 ≤ 18 by decide) slots) hs⟩ rfl (fun v m9 hp => ?_) (fun _ _ hx => hx.elim)
  obtain ⟨r, a, M', w9, hH, rfl, rfl, hw9⟩ := hp
  obtain ⟨v9, N', hm, hG', hra, hO⟩ := b_count h hn hG hH
  refine PW.istore dL_law_815 (Nat.le_of_ble_eq_true rfl) rfl ?_
  refine PW.aload_n (i := 2) dL_law_817 rfl rfl ?_
  refine PW.aload_nA (i := 0) dL_law_818 rfl rfl ?_
  refine PW.iload dL_law_819 rfl ?_
  refine PW.iconst (v := 1) dL_law_821 (by decide) ?_
  refine PW.iadd dL_law_822 ?_
  refine PW.sld (n := 4 * n + 1) rfl dL_law_823 (nI_add _ 1) (by omega) (by omega) rfl ?_
  refine PW.callV (k := (kL_law b Ls xs)) (n := 1) (k' := kX5_count) (hm _) dL_law_824 gL_law_X5_count rfl hd_X5_count rfl ⟨(Nat.le_of_ble_eq_true rfl), (Nat.le_of_ble_eq_true rfl)⟩ ⟨rfl, rfl⟩ (Nat.le_of_ble_eq_true rfl) ⟨Nat.le_trans (Nat.add_le_add_left (show 1 ≤ 3 by decide) cells) hc, Nat.le_trans (Nat.add_le_add_left (show 6 ≤ 18 by decide) slots) hs⟩ sm_mod (by decide) rfl rfl (fun v m9 hp => ?_) (fun _ _ hx => hx.elim)
  obtain ⟨rfl, rfl⟩ := hp
  refine PW.istore dL_law_827 (Nat.le_of_ble_eq_true rfl) rfl ?_
  refine PW.aload_n (i := 2) dL_law_829 rfl rfl ?_
  refine PW.callV (k := (kL_law b Ls xs)) (n := 0) c5_thrown dL_law_830 gL_law_X5_thrown rfl hd_X5_thrown rfl ⟨(Nat.le_of_ble_eq_true rfl), (Nat.le_of_ble_eq_true rfl)⟩ ⟨rfl, rfl⟩ (Nat.le_of_ble_eq_true rfl) ⟨Nat.le_trans (Nat.add_le_add_left (show 1 ≤ 3 by decide) cells) hc, Nat.le_trans (Nat.add_le_add_left (show 6 ≤ 18 by decide) slots) hs⟩ sm_mod (by decide) rfl rfl (fun v m9 hp => ?_) (fun _ _ hx => hx.elim)
  obtain ⟨rfl, rfl⟩ := hp
  refine PW.iload dL_law_833 rfl ?_
  refine PW.icmp_eq (tgt := 840) dL_law_835 (by decide) (fun _ => ?_) (fun q9 => absurd hG'.2.2.2 q9)
  refine PW.iload dL_law_840 rfl ?_
  refine PW.if_ne (tgt := 857) dL_law_842 (by decide) (fun _ => ?_) (fun q9 => ?_)
  · refine PW.goto (tgt := 928) dL_law_857 (by decide) ?_
    refine PW.forget lw_forget ?_
    exact PW.widen (Nat.add_le_add_left (show 1 ≤ 3 by decide) cells) (Nat.add_le_add_left (show 6 ≤ 18 by decide) slots) (kk M' N' w9 r hO hG')
  · refine PW.aload_n (i := 3) dL_law_845 rfl rfl ?_
    refine PW.iconst (v := 0) dL_law_846 (by decide) ?_
    refine PW.lald (n := 0) dL_law_847 sm_out rfl (by decide) rfl ?_
    refine PW.iload dL_law_848 rfl ?_
    refine PW.i2l dL_law_850 ?_
    refine PW.lcmpE dL_law_851 (by rw [hw9 q9, hra q9]) ?_
    refine PW.if_eq (tgt := 857) dL_law_852 (by decide) (fun _ => ?_) (fun q8 => absurd rfl q8)
    refine PW.goto (tgt := 928) dL_law_857 (by decide) ?_
    refine PW.forget lw_forget ?_
    exact PW.widen (Nat.add_le_add_left (show 1 ≤ 3 by decide) cells) (Nat.add_le_add_left (show 6 ≤ 18 by decide) slots) (kk M' N' w9 r hO hG')
set_option maxRecDepth 100000 in
set_option maxHeartbeats 4000000 in
theorem law_book {b Ls n : Nat} {xs : Nat → Int32} {M N : dM} {w : Int64} {z : Int32} {cells slots : Nat} (hLs : Ls ≤ 2048) (hi : 4 * n + 4 ≤ Ls) (hn : n < 512) (h : Ok n M N) (hG : Gd z N) (hc : cells + 3 ≤ 612755) (hs : slots + 18 ≤ 7257839)
    (kk : ∀ (M' N' : dM) (w' : Int64) (z' : Int32), Ok (n + 1) M' N' → Gd z' N' → PW (kL_law b Ls xs) false 0 lwP lwT 928 [some (.retAddr b), some (.ref 0), some (.ref 44), some (.ref 65), some (.int (nI (4 * n))), none, none] [] (SM M' ++ (MM N' ++ ((101, [.long w']) :: []))) (cells + 3) (slots + 18)) :
    PW (kL_law b Ls xs) false 0 lwP lwT 860 [some (.retAddr b), some (.ref 0), some (.ref 44), some (.ref 65), some (.int (nI (4 * n))), none, none] [] (SM M ++ (MM N ++ ((101, [.long w]) :: []))) cells slots := by
  refine PW.aload_n (i := 1) dL_law_860 rfl rfl ?_
  refine PW.aload_nA (i := 0) dL_law_861 rfl rfl ?_
  refine PW.iload dL_law_862 rfl ?_
  refine PW.iconst (v := 1) dL_law_864 (by decide) ?_
  refine PW.iadd dL_law_865 ?_
  refine PW.sld (n := 4 * n + 1) rfl dL_law_866 (nI_add _ 1) (by omega) (by omega) rfl ?_
  refine PW.aload_nA (i := 0) dL_law_867 rfl rfl ?_
  refine PW.iload dL_law_868 rfl ?_
  refine PW.iconst (v := 2) dL_law_870 (by decide) ?_
  refine PW.iadd dL_law_871 ?_
  refine PW.sld (n := 4 * n + 2) rfl dL_law_872 (nI_add _ 2) (by omega) (by omega) rfl ?_
  refine PW.aload_n (i := 3) dL_law_873 rfl rfl ?_
  refine PW.callSW (k := (kL_law b Ls xs)) (n := 4) (hhl := [(0, 10, 13, 13), (0, 10, 17, 57)]) (h_book (xs (4 * n + 1)) (xs (4 * n + 2)) (h.wrM hn) w) dL_law_874 gL_law_L_book rfl hdL_book rfl ⟨(Nat.le_of_ble_eq_true rfl), (Nat.le_of_ble_eq_true rfl)⟩ ⟨rfl, rfl⟩ (Nat.le_of_ble_eq_true rfl) ⟨Nat.le_trans (Nat.add_le_add_left (show 2 ≤ 3 by decide) cells) hc, Nat.le_trans (Nat.add_le_add_left (show 12 ≤ 18 by decide) slots) hs⟩ rfl (fun v m9 hp => ?_) (fun _ _ hx => hx.elim)
  obtain ⟨r, a, M', w9, hH, rfl, rfl, hw9⟩ := hp
  obtain ⟨v9, N', hm, hG', hra, hO⟩ := b_book h hn hG hH
  refine PW.istore dL_law_877 (Nat.le_of_ble_eq_true rfl) rfl ?_
  refine PW.aload_n (i := 2) dL_law_879 rfl rfl ?_
  refine PW.aload_nA (i := 0) dL_law_880 rfl rfl ?_
  refine PW.iload dL_law_881 rfl ?_
  refine PW.iconst (v := 1) dL_law_883 (by decide) ?_
  refine PW.iadd dL_law_884 ?_
  refine PW.sld (n := 4 * n + 1) rfl dL_law_885 (nI_add _ 1) (by omega) (by omega) rfl ?_
  refine PW.aload_nA (i := 0) dL_law_886 rfl rfl ?_
  refine PW.iload dL_law_887 rfl ?_
  refine PW.iconst (v := 2) dL_law_889 (by decide) ?_
  refine PW.iadd dL_law_890 ?_
  refine PW.sld (n := 4 * n + 2) rfl dL_law_891 (nI_add _ 2) (by omega) (by omega) rfl ?_
  refine PW.callV (k := (kL_law b Ls xs)) (n := 2) (k' := kX5_book) (hm _) dL_law_892 gL_law_X5_book rfl hd_X5_book rfl ⟨(Nat.le_of_ble_eq_true rfl), (Nat.le_of_ble_eq_true rfl)⟩ ⟨rfl, rfl⟩ (Nat.le_of_ble_eq_true rfl) ⟨Nat.le_trans (Nat.add_le_add_left (show 2 ≤ 3 by decide) cells) hc, Nat.le_trans (Nat.add_le_add_left (show 12 ≤ 18 by decide) slots) hs⟩ sm_mod (by decide) rfl rfl (fun v m9 hp => ?_) (fun _ _ hx => hx.elim)
  obtain ⟨rfl, rfl⟩ := hp
  refine PW.istore dL_law_895 (Nat.le_of_ble_eq_true rfl) rfl ?_
  refine PW.aload_n (i := 2) dL_law_897 rfl rfl ?_
  refine PW.callV (k := (kL_law b Ls xs)) (n := 0) c5_thrown dL_law_898 gL_law_X5_thrown rfl hd_X5_thrown rfl ⟨(Nat.le_of_ble_eq_true rfl), (Nat.le_of_ble_eq_true rfl)⟩ ⟨rfl, rfl⟩ (Nat.le_of_ble_eq_true rfl) ⟨Nat.le_trans (Nat.add_le_add_left (show 2 ≤ 3 by decide) cells) hc, Nat.le_trans (Nat.add_le_add_left (show 12 ≤ 18 by decide) slots) hs⟩ sm_mod (by decide) rfl rfl (fun v m9 hp => ?_) (fun _ _ hx => hx.elim)
  obtain ⟨rfl, rfl⟩ := hp
  refine PW.iload dL_law_901 rfl ?_
  refine PW.icmp_eq (tgt := 908) dL_law_903 (by decide) (fun _ => ?_) (fun q9 => absurd hG'.2.2.2 q9)
  refine PW.iload dL_law_908 rfl ?_
  refine PW.if_ne (tgt := 925) dL_law_910 (by decide) (fun _ => ?_) (fun q9 => ?_)
  · refine PW.goto (tgt := 928) dL_law_925 (by decide) ?_
    refine PW.forget lw_forget ?_
    exact PW.widen (Nat.add_le_add_left (show 2 ≤ 3 by decide) cells) (Nat.add_le_add_left (show 12 ≤ 18 by decide) slots) (kk M' N' w9 r hO hG')
  · refine PW.aload_n (i := 3) dL_law_913 rfl rfl ?_
    refine PW.iconst (v := 0) dL_law_914 (by decide) ?_
    refine PW.lald (n := 0) dL_law_915 sm_out rfl (by decide) rfl ?_
    refine PW.iload dL_law_916 rfl ?_
    refine PW.i2l dL_law_918 ?_
    refine PW.lcmpE dL_law_919 (by rw [hw9 q9, hra q9]) ?_
    refine PW.if_eq (tgt := 925) dL_law_920 (by decide) (fun _ => ?_) (fun q8 => absurd rfl q8)
    refine PW.goto (tgt := 928) dL_law_925 (by decide) ?_
    refine PW.forget lw_forget ?_
    exact PW.widen (Nat.add_le_add_left (show 2 ≤ 3 by decide) cells) (Nat.add_le_add_left (show 12 ≤ 18 by decide) slots) (kk M' N' w9 r hO hG')
