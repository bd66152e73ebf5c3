/-! THE LAW: from its entry over all the script -/
theorem lw_le {Ls n : Nat} (h1 : Ls ≤ 2048) (h2 : 4 * n ≤ Ls) (q : ¬ nI Ls - 4 < nI (4 * n)) : 4 * n + 4 ≤ Ls := by
  rw [Int32.lt_iff_toInt_lt] at q
  have e4 : (4 : Int32).toInt = 4 := by decide
  have e1 : (nI Ls - 4).toInt = Ls - 4 := by
    rw [Int32.toInt_sub, nI_toInt (by omega), e4, Int.bmod_eq_of_le] <;> omega
  rw [e1, nI_toInt (by omega)] at q
  omega
set_option maxRecDepth 100000 in
set_option maxHeartbeats 4000000 in
theorem law_loop {b Ls : Nat} {xs : Nat → Int32} (hLs : Ls ≤ 2048) : ∀ (f n : Nat) (M N : dM) (w : Int64) (z : Int32), n + f = 513 → 4 * n ≤ Ls → Ok n M N → Gd z N → PW (kL_law b Ls xs) false 0 lwP lwT 23 [some (.retAddr b), some (.ref 0), some (.ref 44), some (.ref 65), some (.int (nI (4 * n))), none, none] [] (SM M ++ (MM N ++ ((101, [.long w]) :: []))) (66 + 3 * n) (1272 + 18 * n)
  | 0, n, M, N, w, z, hf, h4, h, hG => absurd h4 (by omega)
  | f + 1, n, M, N, w, z, hf, h4, h, hG => by
    have hn : n ≤ 512 := by omega
    refine PW.iload dL_law_23 rfl ?_
    refine PW.aload_nA (i := 0) dL_law_25 rfl rfl ?_
    refine PW.slen rfl dL_law_26 ?_
    refine PW.iconst (v := 4) dL_law_27 (by decide) ?_
    refine PW.isub dL_law_28 ?_
    refine PW.icmp_gt (tgt := 934) dL_law_29 (by decide) (fun _ => ?_) (fun q => ?_)
    · refine PW.iconst (v := 1) dL_law_934 (by decide) ?_
      exact PW.zret dL_law_935 rfl rfl rfl (by show 66 + 3 * n ≤ 612755; omega) (by show 1272 + 18 * n ≤ 7257839; omega)
    have hi : 4 * n + 4 ≤ Ls := lw_le hLs h4 q
    have hn : n < 512 := by omega
    refine PW.aload_nA (i := 0) dL_law_32 rfl rfl ?_
    refine PW.iload dL_law_33 rfl ?_
    refine PW.sld (n := 4 * n) rfl dL_law_35 rfl (by omega) (by omega) rfl ?_
    refine PW.bipush (v := 15) dL_law_36 (by decide) ?_
    refine PW.iand dL_law_38 ?_
    have kk : ∀ (M' N' : dM) (w' : Int64) (z' : Int32), Ok (n + 1) M' N' → Gd z' N' → PW (kL_law b Ls xs) false 0 lwP lwT 928 [some (.retAddr b), some (.ref 0), some (.ref 44), some (.ref 65), some (.int (nI (4 * n))), none, none] [] (SM M' ++ (MM N' ++ ((101, [.long w']) :: []))) (66 + 3 * n + 3) (1272 + 18 * n + 18) := fun M' N' w' z' hO hG' => by
      refine PW.iinc (v := nI (4 * (n + 1))) dL_law_928 rfl (nI_add _ 4) (Nat.le_of_ble_eq_true rfl) rfl ?_
      refine PW.goto (tgt := 23) dL_law_931 (by decide) ?_
      exact law_loop hLs f (n + 1) M' N' w' z' (by omega) (by omega) hO hG'
    have hc : 66 + 3 * n + 3 ≤ 612755 := by omega
    have hs : 1272 + 18 * n + 18 ≤ 7257839 := by omega
    generalize xs (4 * n) &&& 15 = v
    by_cases c0 : v = 0
    · subst c0
      exact PW.tableIn (off := 65) (tgt := 104) dL_law_39 (by decide) (by decide) (by decide) (by decide) (law_up hLs hi hn h hG hc hs kk)
    by_cases c1 : v = 1
    · subst c1
      exact PW.tableIn (off := 121) (tgt := 160) dL_law_39 (by decide) (by decide) (by decide) (by decide) (law_down hLs hi hn h hG hc hs kk)
    by_cases c2 : v = 2
    · subst c2
      exact PW.tableIn (off := 157) (tgt := 196) dL_law_39 (by decide) (by decide) (by decide) (by decide) (law_digit hLs hi hn h hG hc hs kk)
    by_cases c3 : v = 3
    · subst c3
      exact PW.tableIn (off := 225) (tgt := 264) dL_law_39 (by decide) (by decide) (by decide) (by decide) (law_camp hLs hi hn h hG hc hs kk)
    by_cases c4 : v = 4
    · subst c4
      exact PW.tableIn (off := 281) (tgt := 320) dL_law_39 (by decide) (by decide) (by decide) (by decide) (law_park hLs hi hn h hG hc hs kk)
    by_cases c5 : v = 5
    · subst c5
      exact PW.tableIn (off := 349) (tgt := 388) dL_law_39 (by decide) (by decide) (by decide) (by decide) (law_transfer hLs hi hn h hG hc hs kk)
    by_cases c6 : v = 6
    · subst c6
      exact PW.tableIn (off := 417) (tgt := 456) dL_law_39 (by decide) (by decide) (by decide) (by decide) (law_tick hLs hi hn h hG hc hs kk)
    by_cases c7 : v = 7
    · subst c7
      exact PW.tableIn (off := 473) (tgt := 512) dL_law_39 (by decide) (by decide) (by decide) (by decide) (law_group hLs hi hn h hG hc hs kk)
    by_cases c8 : v = 8
    · subst c8
      exact PW.tableIn (off := 553) (tgt := 592) dL_law_39 (by decide) (by decide) (by decide) (by decide) (law_slot hLs hi hn h hG hc hs kk)
    by_cases c9 : v = 9
    · subst c9
      exact PW.tableIn (off := 629) (tgt := 668) dL_law_39 (by decide) (by decide) (by decide) (by decide) (law_carries hLs hi hn h hG hc hs kk)
    by_cases c10 : v = 10
    · subst c10
      exact PW.tableIn (off := 697) (tgt := 736) dL_law_39 (by decide) (by decide) (by decide) (by decide) (law_line hLs hi hn h hG hc hs kk)
    by_cases c11 : v = 11
    · subst c11
      exact PW.tableIn (off := 765) (tgt := 804) dL_law_39 (by decide) (by decide) (by decide) (by decide) (law_count hLs hi hn h hG hc hs kk)
    by_cases c12 : v = 12
    · subst c12
      exact PW.tableIn (off := 821) (tgt := 860) dL_law_39 (by decide) (by decide) (by decide) (by decide) (law_book hLs hi hn h hG hc hs kk)
    by_cases hh : v.toInt < 0 ∨ 12 < v.toInt
    · exact PW.tableOut (tgt := 928) dL_law_39 hh (by decide) (PW.widen (Nat.le_add_right _ 3) (Nat.le_add_right _ 18) (kk M N w z h.up1 hG))
    · exfalso
      have e : v.toInt = 0 ∨ v.toInt = 1 ∨ v.toInt = 2 ∨ v.toInt = 3 ∨ v.toInt = 4 ∨ v.toInt = 5 ∨ v.toInt = 6 ∨ v.toInt = 7 ∨ v.toInt = 8 ∨ v.toInt = 9 ∨ v.toInt = 10 ∨ v.toInt = 11 ∨ v.toInt = 12 := by omega
      rcases e with e | e | e | e | e | e | e | e | e | e | e | e | e
      · exact c0 (Int32.toInt_inj.mp (e.trans (by decide)))
      · exact c1 (Int32.toInt_inj.mp (e.trans (by decide)))
      · exact c2 (Int32.toInt_inj.mp (e.trans (by decide)))
      · exact c3 (Int32.toInt_inj.mp (e.trans (by decide)))
      · exact c4 (Int32.toInt_inj.mp (e.trans (by decide)))
      · exact c5 (Int32.toInt_inj.mp (e.trans (by decide)))
      · exact c6 (Int32.toInt_inj.mp (e.trans (by decide)))
      · exact c7 (Int32.toInt_inj.mp (e.trans (by decide)))
      · exact c8 (Int32.toInt_inj.mp (e.trans (by decide)))
      · exact c9 (Int32.toInt_inj.mp (e.trans (by decide)))
      · exact c10 (Int32.toInt_inj.mp (e.trans (by decide)))
      · exact c11 (Int32.toInt_inj.mp (e.trans (by decide)))
      · exact c12 (Int32.toInt_inj.mp (e.trans (by decide)))
theorem wl_cl8 : Cond.classLink RL 8 RX4 ∈ wsL_law := by decide +kernel
theorem wl_in4 : Cond.instantiable RX4 7 ∈ wsL_law := by decide +kernel
theorem wl_it4 : Cond.initialized RX4 ∈ wsL_law := by decide +kernel
theorem wl_cl60 : Cond.classLink RL 60 RX5 ∈ wsL_law := by decide +kernel
theorem wl_in5 : Cond.instantiable RX5 25 ∈ wsL_law := by decide +kernel
theorem wl_it5 : Cond.initialized RX5 ∈ wsL_law := by decide +kernel
theorem wl_arl : Cond.arrayClass .long ∈ wsL_law := by decide +kernel
theorem wl_ml59 : Cond.methodLink RL 59 yX4_init ∈ wsL_law := by decide +kernel
theorem wl_im4 : Cond.instanceMethod yX4_init ∈ wsL_law := by decide +kernel
theorem wl_ml62 : Cond.methodLink RL 62 yX5_init ∈ wsL_law := by decide +kernel
theorem wl_im5 : Cond.instanceMethod yX5_init ∈ wsL_law := by decide +kernel
theorem wl_u4 : ∀ w ∈ u_ws RX4 TX4 7, w ∈ wsL_law := by decide +kernel
theorem wl_u5 : ∀ w ∈ u_ws RX5 TX5 25, w ∈ wsL_law := by decide +kernel
theorem hiL_X4 : yX4_init.cls ≠ "java/lang/invoke/MethodHandle" ∧ yX4_init.cls ≠ "java/lang/invoke/VarHandle" ∧ (parseMethodDescriptor yX4_init.desc).map (fun d => d.parameters.length) = some 0 := by decide +kernel
theorem hiL_X5 : yX5_init.cls ≠ "java/lang/invoke/MethodHandle" ∧ yX5_init.cls ≠ "java/lang/invoke/VarHandle" ∧ (parseMethodDescriptor yX5_init.desc).map (fun d => d.parameters.length) = some 0 := by decide +kernel
set_option maxRecDepth 100000 in
set_option maxHeartbeats 4000000 in
theorem law_start {b Ls : Nat} {xs : Nat → Int32} (hLs : Ls ≤ 2048) : PW (kL_law b Ls xs) true 0 lwP lwT 0 [some (.retAddr b), none, none, none, none, none, none] [] [] 0 0 := by
  refine PW.newo (ci := 4) (fs := [Value.null, Value.null, Value.null, Value.null, Value.null, Value.int 0, Value.int 0]) dL_law_0 wl_cl8 wl_in4 wl_it4 rfl (by decide) wl_u4 tyX4_ok (by decide) (fun _ => rfl) rfl (Nat.le_of_ble_eq_true rfl) (Nat.le_of_ble_eq_true rfl) ?_
  refine PW.dup dL_law_3 rfl ?_
  refine PW.callI (k := (kL_law b Ls xs)) (n := 0) (b := 0) c_initDesk dL_law_4 gL_law_X4_init rfl rfl wl_it4 wl_ml59 wl_im4 hiL_X4 rfl ⟨Nat.le_of_ble_eq_true rfl, Nat.le_of_ble_eq_true rfl⟩ ⟨rfl, rfl⟩ (Nat.le_of_ble_eq_true rfl) ⟨Nat.le_of_ble_eq_true rfl, Nat.le_of_ble_eq_true rfl⟩ rfl rfl (fun v m9 hp => ?_)
  obtain ⟨rfl, rfl⟩ := hp
  refine PW.astore_n (i := 1) dL_law_7 rfl (Nat.le_of_ble_eq_true rfl) rfl ?_
  refine PW.newo (ci := 5) (fs := [Value.int 0, Value.int 0, Value.null, Value.null, Value.null, Value.null, Value.null, Value.null, Value.null, Value.int 0, Value.null, Value.null, Value.null, Value.null, Value.null, Value.null, Value.null, Value.null, Value.null, Value.null, Value.null, Value.null, Value.int 0, Value.int 0, Value.null]) dL_law_8 wl_cl60 wl_in5 wl_it5 rfl (by decide) wl_u5 tyX5_ok (by decide) (fun _ => rfl) (by rw [SM_len]; rfl) (Nat.le_of_ble_eq_true rfl) (Nat.le_of_ble_eq_true rfl) ?_
  rw [SM_len]
  refine PW.dup dL_law_11 rfl ?_
  refine PW.callI (k := (kL_law b Ls xs)) (n := 0) (b := 44) c_initModel dL_law_12 gL_law_X5_init rfl rfl wl_it5 wl_ml62 wl_im5 hiL_X5 rfl ⟨Nat.le_of_ble_eq_true rfl, Nat.le_of_ble_eq_true rfl⟩ ⟨rfl, rfl⟩ (Nat.le_of_ble_eq_true rfl) ⟨Nat.le_of_ble_eq_true rfl, Nat.le_of_ble_eq_true rfl⟩ (by rw [List.length_append, SM_len]; rfl) rfl (fun v m9 hp => ?_)
  obtain ⟨rfl, rfl⟩ := hp
  have hl65 : (SM dM0 ++ (MM nM0 ++ [])).length = 65 := by rw [List.length_append, List.length_append, SM_len, MM_len]; rfl
  refine PW.astore_n (i := 2) dL_law_15 rfl (Nat.le_of_ble_eq_true rfl) rfl ?_
  refine PW.iconst (v := 1) dL_law_16 (by decide) ?_
  refine PW.newa (tag := 101) (fs := List.replicate 1 (.long 0)) dL_law_17 wl_arl rfl rfl (fun _ => rfl) (hpeL 1) rfl (by decide) (by decide) (by rw [hl65]; rfl) (Nat.le_of_ble_eq_true rfl) (Nat.le_of_ble_eq_true rfl) ?_
  rw [hl65]
  refine PW.astore_n (i := 3) dL_law_19 rfl (Nat.le_of_ble_eq_true rfl) rfl ?_
  refine PW.iconst (v := 0) dL_law_20 (by decide) ?_
  refine PW.istore dL_law_21 (Nat.le_of_ble_eq_true rfl) rfl ?_
  refine PW.still ?_
  rw [List.append_nil, List.append_assoc]
  exact law_loop hLs 513 0 dM0 nM0 0 0 rfl (Nat.zero_le _) start_ok gd_start
