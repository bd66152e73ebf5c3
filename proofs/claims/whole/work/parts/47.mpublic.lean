def Z (N : dM) : dM := up2 N 39 7 0
theorem Z_row {N : dM} {r : Nat} (h : r ≠ 39) : Z N r = N r := funext (fun j => up2_r h)
theorem Rx.thrZ {x : Nat} {M N : dM} (h : Rx x M N) : Rx x M (Z N) := h.thr
theorem inL {l : Nat} (h : l < 24) : g_in (nI l) 0 23 = true := (in_iff (b' := 24) (by decide)).mpr ⟨nI_pos (by omega), nI_ge (b := 24) h (by decide)⟩
theorem in3 {l : Nat} (h : l < 4) : g_in (nI l) 0 3 = true := (in_iff (b' := 4) (by decide)).mpr ⟨nI_pos (by omega), nI_ge (b := 4) h (by decide)⟩
theorem in7 {l : Nat} (h : l < 8) : g_in (nI l) 0 7 = true := (in_iff (b' := 8) (by decide)).mpr ⟨nI_pos (by omega), nI_ge (b := 8) h (by decide)⟩
theorem in5 {l : Nat} (h : l < 6) : g_in (nI l) 0 5 = true := (in_iff (b' := 6) (by decide)).mpr ⟨nI_pos (by omega), nI_ge (b := 6) h (by decide)⟩
theorem GN_tone {Q N : dM} {l : Nat} (h : Rx 24 Q N) (hI : Iv 24 Q) (hS : Sf Q) (hl : l < 24) (h0 : N l 1 = 0) : GN (g_bec N l 1) := by
  obtain ⟨hL, hC⟩ := h.1 l hl (by omega)
  rw [← hL.1] at h0
  have n3 : N l 3 = -1 := by rw [← hL.2.1]; exact hC.1 (ne_of_st h0 (by decide)) (ne_of_st h0 (by decide)) (ne_of_st h0 (by decide)) (ne_of_st h0 (by decide))
  have n4 : N l 4 = -1 := by rw [← hL.2.2.1]; exact hC.2.1 (ne_of_st h0 (by decide)) (ne_of_st h0 (by decide))
  have kr := hL.kr (hC.2.2.2 (ne_of_st h0 (by decide)))
  exact ⟨f_enter Q l 1 (Q 39 5), h.row hl EX.enter EX.bec (fun _ => LR_to hl kr n3 n4 h.2.2.2.2.1 (by decide)) (fun q => absurd q (by omega)), hI.enter hl (hI.nd hl (by omega) (ne_of_st h0 (by decide)) (ne_of_st h0 (by decide)) (ne_of_st h0 (by decide)) (ne_of_st h0 (by decide))) (by decide) (by decide) rfl, hS.enter hl (by decide) (by decide) (by decide) (by decide)⟩
theorem GN_answer {Q N : dM} {l o t : Nat} (h : Rx 24 Q N) (hI : Iv 24 Q) (hS : Sf Q) (hl : l < 24) (ho : o < 24) (ht : t < 8) (h4 : N l 1 = 4) (e3 : N l 3 = nI o) : GN (g_conn (huL o (nI l) 24 0 N) o l (nI t)) := by
  obtain ⟨hL, hC⟩ := h.1 l hl (by omega)
  rw [← hL.1] at h4
  rw [← hL.2.1] at e3
  obtain ⟨b1, b2⟩ := answer_eq (b := nI t) h hI hl ho h4 e3
  exact ⟨_, b1, b2, (hS.begin ho hl ht).stop ho⟩
theorem hush_l4 {Q N : dM} {l o : Nat} (h : Rx 24 Q N) (hI : Iv 24 Q) (hl : l < 24) (ho : o < 24) : huL o (nI l) 24 0 N l 4 = N l 4 := by
  obtain ⟨r1, -⟩ := hush_eq (x := 24) (c := o) (b := l) (w := nI l) ho (fun k hk => ⟨fun q => by rw [q], fun q => nI_eq24 hk hl q⟩) 24 0 Q N rfl h hI
  have rl : spB o l 24 0 Q l = Q l := spB_row ho (Or.inl hl) 24 0 Q rfl (fun q => q.2.2.2 rfl)
  rw [← (r1.1 l hl (by omega)).1.2.2.1, rl, (h.1 l hl (by omega)).1.2.2.1]
set_option maxRecDepth 100000 in
set_option maxHeartbeats 4000000 in
theorem c5_up_bad {M N : dM} {R : pM} (x : Int32) (hb : g_in x 0 23 = false) (l9 : Launch) : pMet l9 yX5_up kX5_up false [.ref 44, .int x] (SM M ++ (MM N ++ R)) (fun v m9 => v = some (.int (0)) ∧ m9 = SM M ++ (MM (up2 N 39 7 1) ++ R)) (fun _ _ => False) := by
  refine pMet.of (by decide) rfl rfl rfl (by intro v hv; simp only [List.mem_cons, List.not_mem_nil, or_false] at hv; rcases hv with rfl | rfl <;> rfl) (Nat.le_of_ble_eq_true rfl) ?_
  show PW _ _ _ _ _ 0 [some (.ref 44), some (.int x), none, none] [] (SM M ++ (MM N ++ R)) 0 0
  refine PW.iload_n (i := 1) dX5_up_0 rfl rfl ?_
  refine PW.callS (k := kX5_up) (n := 1) (c5_isLine _) dX5_up_1 gX5_up_X5_isLine rfl hs_X5_isLine rfl ⟨by decide, by decide⟩ ⟨rfl, rfl⟩ (Nat.le_of_ble_eq_true rfl) ⟨by decide, by decide⟩ rfl (fun v m9 hp => ?_) (fun _ _ hx => hx.elim)
  obtain ⟨rfl, rfl⟩ := hp
  rw [hb]
  refine PW.if_ne (tgt := 11) dX5_up_4 (by decide) (fun h4 => absurd h4 (by decide)) (fun _ => ?_)
  refine PW.iconst (v := 1) dX5_up_7 (by decide) ?_
  refine PW.goto (tgt := 12) dX5_up_8 (by decide) ?_
  refine PW.istore_n (i := 2) dX5_up_12 rfl (by decide) rfl ?_
  refine PW.aload_n (i := 0) dX5_up_13 rfl rfl ?_
  refine PW.iload_n (i := 2) dX5_up_14 rfl rfl ?_
  refine PW.iload_n (i := 2) dX5_up_15 rfl rfl ?_
  refine PW.if_ne (tgt := 42) dX5_up_16 (by decide) (fun _ => ?_) (fun h16 => absurd h16 (by decide))
  refine PW.iconst (v := 0) dX5_up_42 (by decide) ?_
  refine PW.callV (k := kX5_up) (n := 2) (c5_throwing true false) dX5_up_43 gX5_up_X5_throwing rfl hd_X5_throwing rfl ⟨by decide, by decide⟩ ⟨rfl, rfl⟩ (Nat.le_of_ble_eq_true rfl) ⟨by decide, by decide⟩ sm_mod (by decide) rfl rfl (fun v m9 hp => ?_) (fun _ _ hx => hx.elim)
  obtain ⟨rfl, rfl⟩ := hp
  refine PW.if_eq (tgt := 51) dX5_up_46 (by decide) (fun h46 => absurd h46 (by decide)) (fun _ => ?_)
  refine PW.iconst (v := 0) dX5_up_49 (by decide) ?_
  exact PW.iret dX5_up_50 rfl ⟨rfl, rfl⟩ (by decide) (by decide)
set_option maxRecDepth 100000 in
set_option maxHeartbeats 4000000 in
theorem c5_up_two {M N : dM} {R : pM} {l : Nat} (hl : l < 24) (h0 : ¬ N l 1 = 0) (h4 : ¬ N l 1 = 4) (l9 : Launch) : pMet l9 yX5_up kX5_up false [.ref 44, .int (nI l)] (SM M ++ (MM N ++ R)) (fun v m9 => v = some (.int (0)) ∧ m9 = SM M ++ (MM (up2 N 39 7 2) ++ R)) (fun _ _ => False) := by
  refine pMet.of (by decide) rfl rfl rfl (by intro v hv; simp only [List.mem_cons, List.not_mem_nil, or_false] at hv; rcases hv with rfl | rfl <;> rfl) (Nat.le_of_ble_eq_true rfl) ?_
  show PW _ _ _ _ _ 0 [some (.ref 44), some (.int (nI l)), none, none] [] (SM M ++ (MM N ++ R)) 0 0
  refine PW.iload_n (i := 1) dX5_up_0 rfl rfl ?_
  refine PW.callS (k := kX5_up) (n := 1) (c5_isLine _) dX5_up_1 gX5_up_X5_isLine rfl hs_X5_isLine rfl ⟨by decide, by decide⟩ ⟨rfl, rfl⟩ (Nat.le_of_ble_eq_true rfl) ⟨by decide, by decide⟩ rfl (fun v m9 hp => ?_) (fun _ _ hx => hx.elim)
  obtain ⟨rfl, rfl⟩ := hp
  rw [inL hl]
  refine PW.if_ne (tgt := 11) dX5_up_4 (by decide) (fun _ => ?_) (fun h4 => absurd h4 (by decide))
  refine PW.iconst (v := 0) dX5_up_11 (by decide) ?_
  refine PW.istore_n (i := 2) dX5_up_12 rfl (by decide) rfl ?_
  refine PW.aload_n (i := 0) dX5_up_13 rfl rfl ?_
  refine PW.iload_n (i := 2) dX5_up_14 rfl rfl ?_
  refine PW.iload_n (i := 2) dX5_up_15 rfl rfl ?_
  refine PW.if_ne (tgt := 42) dX5_up_16 (by decide) (fun h16 => absurd h16 (by decide)) (fun _ => ?_)
  refine PW.aload_n (i := 0) dX5_up_19 rfl rfl ?_
  refine PW.getf FX5_up_7 dX5_up_20 sm_mod rfl ?_
  refine PW.iload_n (i := 1) dX5_up_23 rfl rfl ?_
  refine PW.iald dX5_up_24 ma_state rfl (Nat.lt_trans hl (by decide)) (mg_state hl) ?_
  refine PW.if_eq (tgt := 42) dX5_up_25 (by decide) (fun h25 => absurd h25 h0) (fun _ => ?_)
  refine PW.aload_n (i := 0) dX5_up_28 rfl rfl ?_
  refine PW.getf FX5_up_7 dX5_up_29 sm_mod rfl ?_
  refine PW.iload_n (i := 1) dX5_up_32 rfl rfl ?_
  refine PW.iald dX5_up_33 ma_state rfl (Nat.lt_trans hl (by decide)) (mg_state hl) ?_
  refine PW.iconst (v := 4) dX5_up_34 (by decide) ?_
  refine PW.icmp_eq (tgt := 42) dX5_up_35 (by decide) (fun h35 => absurd h35 h4) (fun _ => ?_)
  refine PW.iconst (v := 1) dX5_up_38 (by decide) ?_
  refine PW.goto (tgt := 43) dX5_up_39 (by decide) ?_
  refine PW.callV (k := kX5_up) (n := 2) (c5_throwing false true) dX5_up_43 gX5_up_X5_throwing rfl hd_X5_throwing rfl ⟨by decide, by decide⟩ ⟨rfl, rfl⟩ (Nat.le_of_ble_eq_true rfl) ⟨by decide, by decide⟩ sm_mod (by decide) rfl rfl (fun v m9 hp => ?_) (fun _ _ hx => hx.elim)
  obtain ⟨rfl, rfl⟩ := hp
  refine PW.if_eq (tgt := 51) dX5_up_46 (by decide) (fun h46 => absurd h46 (by decide)) (fun _ => ?_)
  refine PW.iconst (v := 0) dX5_up_49 (by decide) ?_
  exact PW.iret dX5_up_50 rfl ⟨rfl, rfl⟩ (by decide) (by decide)
set_option maxRecDepth 100000 in
set_option maxHeartbeats 4000000 in
theorem c5_up_ok {M N : dM} {R : pM} {Q : dM} (hQ : Rx 24 Q N) (hI : Iv 24 Q) (hS : Sf Q) {l : Nat} (hl : l < 24) (hh : N l 1 = 0 ∨ N l 1 = 4) (l9 : Launch) : pMet l9 yX5_up kX5_up false [.ref 44, .int (nI l)] (SM M ++ (MM N ++ R)) (fun v m9 => v = some (.int (g_up (Z N) l l 1)) ∧ m9 = SM M ++ (MM (g_up (Z N) l) ++ R)) (fun _ _ => False) := by
  refine pMet.of (by decide) rfl rfl rfl (by intro v hv; simp only [List.mem_cons, List.not_mem_nil, or_false] at hv; rcases hv with rfl | rfl <;> rfl) (Nat.le_of_ble_eq_true rfl) ?_
  show PW _ _ _ _ _ 0 [some (.ref 44), some (.int (nI l)), none, none] [] (SM M ++ (MM N ++ R)) 0 0
  rcases hh with h0 | h4
  · skip
    refine PW.iload_n (i := 1) dX5_up_0 rfl rfl ?_
    refine PW.callS (k := kX5_up) (n := 1) (c5_isLine _) dX5_up_1 gX5_up_X5_isLine rfl hs_X5_isLine rfl ⟨by decide, by decide⟩ ⟨rfl, rfl⟩ (Nat.le_of_ble_eq_true rfl) ⟨by decide, by decide⟩ rfl (fun v m9 hp => ?_) (fun _ _ hx => hx.elim)
    obtain ⟨rfl, rfl⟩ := hp
    rw [inL hl]
    refine PW.if_ne (tgt := 11) dX5_up_4 (by decide) (fun _ => ?_) (fun h4 => absurd h4 (by decide))
    refine PW.iconst (v := 0) dX5_up_11 (by decide) ?_
    refine PW.istore_n (i := 2) dX5_up_12 rfl (by decide) rfl ?_
    refine PW.aload_n (i := 0) dX5_up_13 rfl rfl ?_
    refine PW.iload_n (i := 2) dX5_up_14 rfl rfl ?_
    refine PW.iload_n (i := 2) dX5_up_15 rfl rfl ?_
    refine PW.if_ne (tgt := 42) dX5_up_16 (by decide) (fun h16 => absurd h16 (by decide)) (fun _ => ?_)
    refine PW.aload_n (i := 0) dX5_up_19 rfl rfl ?_
    refine PW.getf FX5_up_7 dX5_up_20 sm_mod rfl ?_
    refine PW.iload_n (i := 1) dX5_up_23 rfl rfl ?_
    refine PW.iald dX5_up_24 ma_state rfl (Nat.lt_trans hl (by decide)) (mg_state hl) ?_
    refine PW.if_eq (tgt := 42) dX5_up_25 (by decide) (fun _ => ?_) (fun h25 => absurd h0 h25)
    refine PW.iconst (v := 0) dX5_up_42 (by decide) ?_
    refine PW.callV (k := kX5_up) (n := 2) (c5_throwing false false) dX5_up_43 gX5_up_X5_throwing rfl hd_X5_throwing rfl ⟨by decide, by decide⟩ ⟨rfl, rfl⟩ (Nat.le_of_ble_eq_true rfl) ⟨by decide, by decide⟩ sm_mod (by decide) rfl rfl (fun v m9 hp => ?_) (fun _ _ hx => hx.elim)
    obtain ⟨rfl, rfl⟩ := hp
    rw [show up2 N 39 7 (thr false false) = Z N from rfl]
    refine PW.if_eq (tgt := 51) dX5_up_46 (by decide) (fun _ => ?_) (fun h46 => absurd (by decide) h46)
    have z0 : Z N l 1 = 0 := by rw [Z_row (by omega)]; exact h0
    refine PW.aload_n (i := 0) dX5_up_51 rfl rfl ?_
    refine PW.getf FX5_up_7 dX5_up_52 sm_mod rfl ?_
    refine PW.iload_n (i := 1) dX5_up_55 rfl rfl ?_
    refine PW.iald dX5_up_56 ma_state rfl (Nat.lt_trans hl (by decide)) (mg_state hl) ?_
    refine PW.if_ne (tgt := 69) dX5_up_57 (by decide) (fun h57 => absurd h57 (fun z => z z0)) (fun _ => ?_)
    refine PW.aload_n (i := 0) dX5_up_60 rfl rfl ?_
    refine PW.iload_n (i := 1) dX5_up_61 rfl rfl ?_
    refine PW.iconst (v := 1) dX5_up_62 (by decide) ?_
    refine PW.callV (k := kX5_up) (n := 2) (c5_become hl _) dX5_up_63 gX5_up_X5_become rfl hd_X5_become rfl ⟨by decide, by decide⟩ ⟨rfl, rfl⟩ (Nat.le_of_ble_eq_true rfl) ⟨by decide, by decide⟩ sm_mod (by decide) rfl rfl (fun v m9 hp => ?_) (fun _ _ hx => hx.elim)
    obtain ⟨rfl, rfl⟩ := hp
    refine PW.goto (tgt := 94) dX5_up_66 (by decide) ?_
    refine PW.aload_n (i := 0) dX5_up_94 rfl rfl ?_
    refine PW.callV (k := kX5_up) (n := 0) (c5_settle (GN_tone hQ.thrZ hI hS hl z0)) dX5_up_95 gX5_up_X5_settle rfl hd_X5_settle rfl ⟨by decide, by decide⟩ ⟨rfl, rfl⟩ (Nat.le_of_ble_eq_true rfl) ⟨by decide, by decide⟩ sm_mod (by decide) rfl rfl (fun v m9 hp => ?_) (fun _ _ hx => hx.elim)
    obtain ⟨rfl, rfl⟩ := hp
    refine PW.aload_n (i := 0) dX5_up_98 rfl rfl ?_
    refine PW.getf FX5_up_7 dX5_up_99 sm_mod rfl ?_
    refine PW.iload_n (i := 1) dX5_up_102 rfl rfl ?_
    refine PW.iald dX5_up_103 ma_state rfl (Nat.lt_trans hl (by decide)) (mg_state hl) ?_
    exact PW.iret dX5_up_104 rfl ⟨by rw [g_up, g_up0, if_pos z0], by rw [g_up, g_up0, if_pos z0]⟩ (by decide) (by decide)
  · skip
    refine PW.iload_n (i := 1) dX5_up_0 rfl rfl ?_
    refine PW.callS (k := kX5_up) (n := 1) (c5_isLine _) dX5_up_1 gX5_up_X5_isLine rfl hs_X5_isLine rfl ⟨by decide, by decide⟩ ⟨rfl, rfl⟩ (Nat.le_of_ble_eq_true rfl) ⟨by decide, by decide⟩ rfl (fun v m9 hp => ?_) (fun _ _ hx => hx.elim)
    obtain ⟨rfl, rfl⟩ := hp
    rw [inL hl]
    refine PW.if_ne (tgt := 11) dX5_up_4 (by decide) (fun _ => ?_) (fun h4 => absurd h4 (by decide))
    refine PW.iconst (v := 0) dX5_up_11 (by decide) ?_
    refine PW.istore_n (i := 2) dX5_up_12 rfl (by decide) rfl ?_
    refine PW.aload_n (i := 0) dX5_up_13 rfl rfl ?_
    refine PW.iload_n (i := 2) dX5_up_14 rfl rfl ?_
    refine PW.iload_n (i := 2) dX5_up_15 rfl rfl ?_
    refine PW.if_ne (tgt := 42) dX5_up_16 (by decide) (fun h16 => absurd h16 (by decide)) (fun _ => ?_)
    refine PW.aload_n (i := 0) dX5_up_19 rfl rfl ?_
    refine PW.getf FX5_up_7 dX5_up_20 sm_mod rfl ?_
    refine PW.iload_n (i := 1) dX5_up_23 rfl rfl ?_
    refine PW.iald dX5_up_24 ma_state rfl (Nat.lt_trans hl (by decide)) (mg_state hl) ?_
    refine PW.if_eq (tgt := 42) dX5_up_25 (by decide) (fun h25 => absurd h25 (ne_of_st h4 (by decide))) (fun _ => ?_)
    refine PW.aload_n (i := 0) dX5_up_28 rfl rfl ?_
    refine PW.getf FX5_up_7 dX5_up_29 sm_mod rfl ?_
    refine PW.iload_n (i := 1) dX5_up_32 rfl rfl ?_
    refine PW.iald dX5_up_33 ma_state rfl (Nat.lt_trans hl (by decide)) (mg_state hl) ?_
    refine PW.iconst (v := 4) dX5_up_34 (by decide) ?_
    refine PW.icmp_eq (tgt := 42) dX5_up_35 (by decide) (fun _ => ?_) (fun h35 => absurd h4 h35)
    refine PW.iconst (v := 0) dX5_up_42 (by decide) ?_
    refine PW.callV (k := kX5_up) (n := 2) (c5_throwing false false) dX5_up_43 gX5_up_X5_throwing rfl hd_X5_throwing rfl ⟨by decide, by decide⟩ ⟨rfl, rfl⟩ (Nat.le_of_ble_eq_true rfl) ⟨by decide, by decide⟩ sm_mod (by decide) rfl rfl (fun v m9 hp => ?_) (fun _ _ hx => hx.elim)
    obtain ⟨rfl, rfl⟩ := hp
    rw [show up2 N 39 7 (thr false false) = Z N from rfl]
    refine PW.if_eq (tgt := 51) dX5_up_46 (by decide) (fun _ => ?_) (fun h46 => absurd (by decide) h46)
    have z4 : Z N l 1 = 4 := by rw [Z_row (by omega)]; exact h4
    obtain ⟨o, t, ho, ht, e3, e4⟩ := (lnOK.of hQ.thrZ hS hl).1 (Or.inl z4)
    refine PW.aload_n (i := 0) dX5_up_51 rfl rfl ?_
    refine PW.getf FX5_up_7 dX5_up_52 sm_mod rfl ?_
    refine PW.iload_n (i := 1) dX5_up_55 rfl rfl ?_
    refine PW.iald dX5_up_56 ma_state rfl (Nat.lt_trans hl (by decide)) (mg_state hl) ?_
    refine PW.if_ne (tgt := 69) dX5_up_57 (by decide) (fun _ => ?_) (fun h57 => absurd h57 (ne_of_st z4 (by decide)))
    refine PW.aload_n (i := 0) dX5_up_69 rfl rfl ?_
    refine PW.getf FX5_up_22 dX5_up_70 sm_mod rfl ?_
    refine PW.iload_n (i := 1) dX5_up_73 rfl rfl ?_
    refine PW.iald dX5_up_74 ma_other rfl (Nat.lt_trans hl (by decide)) (mg_other hl) ?_
    rw [show Z N l 3 = nI o from e3]
    refine PW.istore_n (i := 3) dX5_up_75 rfl (by decide) rfl ?_
    refine PW.aload_n (i := 0) dX5_up_76 rfl rfl ?_
    refine PW.iload_n (i := 3) dX5_up_77 rfl rfl ?_
    refine PW.iload_n (i := 1) dX5_up_78 rfl rfl ?_
    refine PW.callV (k := kX5_up) (n := 2) (c5_hush ho _ (RS.of hQ.thrZ hS)) dX5_up_79 gX5_up_X5_hush rfl hd_X5_hush rfl ⟨by decide, by decide⟩ ⟨rfl, rfl⟩ (Nat.le_of_ble_eq_true rfl) ⟨by decide, by decide⟩ sm_mod (by decide) rfl rfl (fun v m9 hp => ?_) (fun _ _ hx => hx.elim)
    obtain ⟨rfl, rfl⟩ := hp
    refine PW.aload_n (i := 0) dX5_up_82 rfl rfl ?_
    refine PW.iload_n (i := 3) dX5_up_83 rfl rfl ?_
    refine PW.iload_n (i := 1) dX5_up_84 rfl rfl ?_
    refine PW.aload_n (i := 0) dX5_up_85 rfl rfl ?_
    refine PW.getf FX5_up_25 dX5_up_86 sm_mod rfl ?_
    refine PW.iload_n (i := 1) dX5_up_89 rfl rfl ?_
    refine PW.iald dX5_up_90 ma_slotOf rfl (Nat.lt_trans hl (by decide)) (mg_slotOf hl) ?_
    rw [show huL o (nI l) 24 0 (Z N) l 4 = nI t by rw [hush_l4 hQ.thrZ hI hl ho]; exact e4]
    refine PW.callV (k := kX5_up) (n := 3) (c5_connect ho hl _) dX5_up_91 gX5_up_X5_connect rfl hd_X5_connect rfl ⟨by decide, by decide⟩ ⟨rfl, rfl⟩ (Nat.le_of_ble_eq_true rfl) ⟨by decide, by decide⟩ sm_mod (by decide) rfl rfl (fun v m9 hp => ?_) (fun _ _ hx => hx.elim)
    obtain ⟨rfl, rfl⟩ := hp
    refine PW.aload_n (i := 0) dX5_up_94 rfl rfl ?_
    refine PW.callV (k := kX5_up) (n := 0) (c5_settle (GN_answer hQ.thrZ hI hS hl ho ht z4 e3)) dX5_up_95 gX5_up_X5_settle rfl hd_X5_settle rfl ⟨by decide, by decide⟩ ⟨rfl, rfl⟩ (Nat.le_of_ble_eq_true rfl) ⟨by decide, by decide⟩ sm_mod (by decide) rfl rfl (fun v m9 hp => ?_) (fun _ _ hx => hx.elim)
    obtain ⟨rfl, rfl⟩ := hp
    refine PW.aload_n (i := 0) dX5_up_98 rfl rfl ?_
    refine PW.getf FX5_up_7 dX5_up_99 sm_mod rfl ?_
    refine PW.iload_n (i := 1) dX5_up_102 rfl rfl ?_
    refine PW.iald dX5_up_103 ma_state rfl (Nat.lt_trans hl (by decide)) (mg_state hl) ?_
    have eG : g_up (Z N) l = g_settle (g_conn (huL o (nI l) 24 0 (Z N)) o l (nI t)) := by rw [g_up, g_up0, if_neg (ne_of_st z4 (by decide)), oth, show Z N l 3 = nI o from e3, nI_clamp (by omega), hush_l4 hQ.thrZ hI hl ho, show Z N l 4 = nI t from e4]
    exact PW.iret dX5_up_104 rfl ⟨by rw [eG], by rw [eG]⟩ (by decide) (by decide)
set_option maxRecDepth 100000 in
set_option maxHeartbeats 4000000 in
theorem c5_down_bad {M N : dM} {R : pM} (x : Int32) (hb : g_in x 0 23 = false) (l9 : Launch) : pMet l9 yX5_down kX5_down false [.ref 44, .int x] (SM M ++ (MM N ++ R)) (fun v m9 => v = none ∧ m9 = SM M ++ (MM (up2 N 39 7 1) ++ R)) (fun _ _ => False) := by
  refine pMet.of (by decide) rfl rfl rfl (by intro v hv; simp only [List.mem_cons, List.not_mem_nil, or_false] at hv; rcases hv with rfl | rfl <;> rfl) (Nat.le_of_ble_eq_true rfl) ?_
  show PW _ _ _ _ _ 0 [some (.ref 44), some (.int x), none] [] (SM M ++ (MM N ++ R)) 0 0
  refine PW.iload_n (i := 1) dX5_down_0 rfl rfl ?_
  refine PW.callS (k := kX5_down) (n := 1) (c5_isLine _) dX5_down_1 gX5_down_X5_isLine rfl hs_X5_isLine rfl ⟨by decide, by decide⟩ ⟨rfl, rfl⟩ (Nat.le_of_ble_eq_true rfl) ⟨by decide, by decide⟩ rfl (fun v m9 hp => ?_) (fun _ _ hx => hx.elim)
  obtain ⟨rfl, rfl⟩ := hp
  rw [hb]
  refine PW.if_ne (tgt := 11) dX5_down_4 (by decide) (fun h4 => absurd h4 (by decide)) (fun _ => ?_)
  refine PW.iconst (v := 1) dX5_down_7 (by decide) ?_
  refine PW.goto (tgt := 12) dX5_down_8 (by decide) ?_
  refine PW.istore_n (i := 2) dX5_down_12 rfl (by decide) rfl ?_
  refine PW.aload_n (i := 0) dX5_down_13 rfl rfl ?_
  refine PW.iload_n (i := 2) dX5_down_14 rfl rfl ?_
  refine PW.iload_n (i := 2) dX5_down_15 rfl rfl ?_
  refine PW.if_ne (tgt := 42) dX5_down_16 (by decide) (fun _ => ?_) (fun h16 => absurd h16 (by decide))
  refine PW.iconst (v := 0) dX5_down_42 (by decide) ?_
  refine PW.callV (k := kX5_down) (n := 2) (c5_throwing true false) dX5_down_43 gX5_down_X5_throwing rfl hd_X5_throwing rfl ⟨by decide, by decide⟩ ⟨rfl, rfl⟩ (Nat.le_of_ble_eq_true rfl) ⟨by decide, by decide⟩ sm_mod (by decide) rfl rfl (fun v m9 hp => ?_) (fun _ _ hx => hx.elim)
  obtain ⟨rfl, rfl⟩ := hp
  refine PW.if_eq (tgt := 50) dX5_down_46 (by decide) (fun h46 => absurd h46 (by decide)) (fun _ => ?_)
  exact PW.vret dX5_down_49 rfl ⟨rfl, rfl⟩ (by decide) (by decide)
set_option maxRecDepth 100000 in
set_option maxHeartbeats 4000000 in
theorem c5_down_two {M N : dM} {R : pM} {l : Nat} (hl : l < 24) (hh : N l 1 = 0 ∨ N l 1 = 4) (l9 : Launch) : pMet l9 yX5_down kX5_down false [.ref 44, .int (nI l)] (SM M ++ (MM N ++ R)) (fun v m9 => v = none ∧ m9 = SM M ++ (MM (up2 N 39 7 2) ++ R)) (fun _ _ => False) := by
  refine pMet.of (by decide) rfl rfl rfl (by intro v hv; simp only [List.mem_cons, List.not_mem_nil, or_false] at hv; rcases hv with rfl | rfl <;> rfl) (Nat.le_of_ble_eq_true rfl) ?_
  show PW _ _ _ _ _ 0 [some (.ref 44), some (.int (nI l)), none] [] (SM M ++ (MM N ++ R)) 0 0
  rcases hh with h0 | h4
  · skip
    refine PW.iload_n (i := 1) dX5_down_0 rfl rfl ?_
    refine PW.callS (k := kX5_down) (n := 1) (c5_isLine _) dX5_down_1 gX5_down_X5_isLine rfl hs_X5_isLine rfl ⟨by decide, by decide⟩ ⟨rfl, rfl⟩ (Nat.le_of_ble_eq_true rfl) ⟨by decide, by decide⟩ rfl (fun v m9 hp => ?_) (fun _ _ hx => hx.elim)
    obtain ⟨rfl, rfl⟩ := hp
    rw [inL hl]
    refine PW.if_ne (tgt := 11) dX5_down_4 (by decide) (fun _ => ?_) (fun h4 => absurd h4 (by decide))
    refine PW.iconst (v := 0) dX5_down_11 (by decide) ?_
    refine PW.istore_n (i := 2) dX5_down_12 rfl (by decide) rfl ?_
    refine PW.aload_n (i := 0) dX5_down_13 rfl rfl ?_
    refine PW.iload_n (i := 2) dX5_down_14 rfl rfl ?_
    refine PW.iload_n (i := 2) dX5_down_15 rfl rfl ?_
    refine PW.if_ne (tgt := 42) dX5_down_16 (by decide) (fun h16 => absurd h16 (by decide)) (fun _ => ?_)
    refine PW.aload_n (i := 0) dX5_down_19 rfl rfl ?_
    refine PW.getf FX5_down_7 dX5_down_20 sm_mod rfl ?_
    refine PW.iload_n (i := 1) dX5_down_23 rfl rfl ?_
    refine PW.iald dX5_down_24 ma_state rfl (Nat.lt_trans hl (by decide)) (mg_state hl) ?_
    refine PW.if_eq (tgt := 38) dX5_down_25 (by decide) (fun _ => ?_) (fun h25 => absurd h0 h25)
    refine PW.iconst (v := 1) dX5_down_38 (by decide) ?_
    refine PW.goto (tgt := 43) dX5_down_39 (by decide) ?_
    refine PW.callV (k := kX5_down) (n := 2) (c5_throwing false true) dX5_down_43 gX5_down_X5_throwing rfl hd_X5_throwing rfl ⟨by decide, by decide⟩ ⟨rfl, rfl⟩ (Nat.le_of_ble_eq_true rfl) ⟨by decide, by decide⟩ sm_mod (by decide) rfl rfl (fun v m9 hp => ?_) (fun _ _ hx => hx.elim)
    obtain ⟨rfl, rfl⟩ := hp
    refine PW.if_eq (tgt := 50) dX5_down_46 (by decide) (fun h46 => absurd h46 (by decide)) (fun _ => ?_)
    exact PW.vret dX5_down_49 rfl ⟨rfl, rfl⟩ (by decide) (by decide)
  · skip
    refine PW.iload_n (i := 1) dX5_down_0 rfl rfl ?_
    refine PW.callS (k := kX5_down) (n := 1) (c5_isLine _) dX5_down_1 gX5_down_X5_isLine rfl hs_X5_isLine rfl ⟨by decide, by decide⟩ ⟨rfl, rfl⟩ (Nat.le_of_ble_eq_true rfl) ⟨by decide, by decide⟩ rfl (fun v m9 hp => ?_) (fun _ _ hx => hx.elim)
    obtain ⟨rfl, rfl⟩ := hp
    rw [inL hl]
    refine PW.if_ne (tgt := 11) dX5_down_4 (by decide) (fun _ => ?_) (fun h4 => absurd h4 (by decide))
    refine PW.iconst (v := 0) dX5_down_11 (by decide) ?_
    refine PW.istore_n (i := 2) dX5_down_12 rfl (by decide) rfl ?_
    refine PW.aload_n (i := 0) dX5_down_13 rfl rfl ?_
    refine PW.iload_n (i := 2) dX5_down_14 rfl rfl ?_
    refine PW.iload_n (i := 2) dX5_down_15 rfl rfl ?_
    refine PW.if_ne (tgt := 42) dX5_down_16 (by decide) (fun h16 => absurd h16 (by decide)) (fun _ => ?_)
    refine PW.aload_n (i := 0) dX5_down_19 rfl rfl ?_
    refine PW.getf FX5_down_7 dX5_down_20 sm_mod rfl ?_
    refine PW.iload_n (i := 1) dX5_down_23 rfl rfl ?_
    refine PW.iald dX5_down_24 ma_state rfl (Nat.lt_trans hl (by decide)) (mg_state hl) ?_
    refine PW.if_eq (tgt := 38) dX5_down_25 (by decide) (fun h25 => absurd h25 (ne_of_st h4 (by decide))) (fun _ => ?_)
    refine PW.aload_n (i := 0) dX5_down_28 rfl rfl ?_
    refine PW.getf FX5_down_7 dX5_down_29 sm_mod rfl ?_
    refine PW.iload_n (i := 1) dX5_down_32 rfl rfl ?_
    refine PW.iald dX5_down_33 ma_state rfl (Nat.lt_trans hl (by decide)) (mg_state hl) ?_
    refine PW.iconst (v := 4) dX5_down_34 (by decide) ?_
    refine PW.icmp_ne (tgt := 42) dX5_down_35 (by decide) (fun h35 => absurd h35 (fun z => z h4)) (fun _ => ?_)
    refine PW.iconst (v := 1) dX5_down_38 (by decide) ?_
    refine PW.goto (tgt := 43) dX5_down_39 (by decide) ?_
    refine PW.callV (k := kX5_down) (n := 2) (c5_throwing false true) dX5_down_43 gX5_down_X5_throwing rfl hd_X5_throwing rfl ⟨by decide, by decide⟩ ⟨rfl, rfl⟩ (Nat.le_of_ble_eq_true rfl) ⟨by decide, by decide⟩ sm_mod (by decide) rfl rfl (fun v m9 hp => ?_) (fun _ _ hx => hx.elim)
    obtain ⟨rfl, rfl⟩ := hp
    refine PW.if_eq (tgt := 50) dX5_down_46 (by decide) (fun h46 => absurd h46 (by decide)) (fun _ => ?_)
    exact PW.vret dX5_down_49 rfl ⟨rfl, rfl⟩ (by decide) (by decide)
set_option maxRecDepth 100000 in
set_option maxHeartbeats 4000000 in
theorem c5_down_ok {M N : dM} {R : pM} {Q : dM} (hQ : Rx 24 Q N) (hI : Iv 24 Q) (hS : Sf Q) {l : Nat} (hl : l < 24) (h0 : ¬ N l 1 = 0) (h4 : ¬ N l 1 = 4) (hw : N 37 1 = nI (wr N) ∧ wr N < 100000) (l9 : Launch) : pMet l9 yX5_down kX5_down false [.ref 44, .int (nI l)] (SM M ++ (MM N ++ R)) (fun v m9 => v = none ∧ m9 = SM M ++ (MM (g_down (Z N) l) ++ R)) (fun _ _ => False) := by
  refine pMet.of (by decide) rfl rfl rfl (by intro v hv; simp only [List.mem_cons, List.not_mem_nil, or_false] at hv; rcases hv with rfl | rfl <;> rfl) (Nat.le_of_ble_eq_true rfl) ?_
  show PW _ _ _ _ _ 0 [some (.ref 44), some (.int (nI l)), none] [] (SM M ++ (MM N ++ R)) 0 0
  refine PW.iload_n (i := 1) dX5_down_0 rfl rfl ?_
  refine PW.callS (k := kX5_down) (n := 1) (c5_isLine _) dX5_down_1 gX5_down_X5_isLine rfl hs_X5_isLine rfl ⟨by decide, by decide⟩ ⟨rfl, rfl⟩ (Nat.le_of_ble_eq_true rfl) ⟨by decide, by decide⟩ rfl (fun v m9 hp => ?_) (fun _ _ hx => hx.elim)
  obtain ⟨rfl, rfl⟩ := hp
  rw [inL hl]
  refine PW.if_ne (tgt := 11) dX5_down_4 (by decide) (fun _ => ?_) (fun h4 => absurd h4 (by decide))
  refine PW.iconst (v := 0) dX5_down_11 (by decide) ?_
  refine PW.istore_n (i := 2) dX5_down_12 rfl (by decide) rfl ?_
  refine PW.aload_n (i := 0) dX5_down_13 rfl rfl ?_
  refine PW.iload_n (i := 2) dX5_down_14 rfl rfl ?_
  refine PW.iload_n (i := 2) dX5_down_15 rfl rfl ?_
  refine PW.if_ne (tgt := 42) dX5_down_16 (by decide) (fun h16 => absurd h16 (by decide)) (fun _ => ?_)
  refine PW.aload_n (i := 0) dX5_down_19 rfl rfl ?_
  refine PW.getf FX5_down_7 dX5_down_20 sm_mod rfl ?_
  refine PW.iload_n (i := 1) dX5_down_23 rfl rfl ?_
  refine PW.iald dX5_down_24 ma_state rfl (Nat.lt_trans hl (by decide)) (mg_state hl) ?_
  refine PW.if_eq (tgt := 38) dX5_down_25 (by decide) (fun h25 => absurd h25 h0) (fun _ => ?_)
  refine PW.aload_n (i := 0) dX5_down_28 rfl rfl ?_
  refine PW.getf FX5_down_7 dX5_down_29 sm_mod rfl ?_
  refine PW.iload_n (i := 1) dX5_down_32 rfl rfl ?_
  refine PW.iald dX5_down_33 ma_state rfl (Nat.lt_trans hl (by decide)) (mg_state hl) ?_
  refine PW.iconst (v := 4) dX5_down_34 (by decide) ?_
  refine PW.icmp_ne (tgt := 42) dX5_down_35 (by decide) (fun _ => ?_) (fun h35 => absurd h35 h4)
  refine PW.iconst (v := 0) dX5_down_42 (by decide) ?_
  refine PW.callV (k := kX5_down) (n := 2) (c5_throwing false false) dX5_down_43 gX5_down_X5_throwing rfl hd_X5_throwing rfl ⟨by decide, by decide⟩ ⟨rfl, rfl⟩ (Nat.le_of_ble_eq_true rfl) ⟨by decide, by decide⟩ sm_mod (by decide) rfl rfl (fun v m9 hp => ?_) (fun _ _ hx => hx.elim)
  obtain ⟨rfl, rfl⟩ := hp
  rw [show up2 N 39 7 (thr false false) = Z N from rfl]
  refine PW.if_eq (tgt := 50) dX5_down_46 (by decide) (fun _ => ?_) (fun h46 => absurd (by decide) h46)
  refine PW.aload_n (i := 0) dX5_down_50 rfl rfl ?_
  refine PW.iload_n (i := 1) dX5_down_51 rfl rfl ?_
  refine PW.callV (k := kX5_down) (n := 1) (c5_leave hQ.thrZ hS hl (fun _ => by rw [wr, Z_row (by decide)]; exact hw)) dX5_down_52 gX5_down_X5_leave rfl hd_X5_leave rfl ⟨by decide, by decide⟩ ⟨rfl, rfl⟩ (Nat.le_of_ble_eq_true rfl) ⟨by decide, by decide⟩ sm_mod (by decide) rfl rfl (fun v m9 hp => ?_) (fun _ _ hx => hx.elim)
  obtain ⟨rfl, rfl⟩ := hp
  refine PW.aload_n (i := 0) dX5_down_55 rfl rfl ?_
  refine PW.iload_n (i := 1) dX5_down_56 rfl rfl ?_
  refine PW.iconst (v := 0) dX5_down_57 (by decide) ?_
  refine PW.callV (k := kX5_down) (n := 2) (c5_become hl _) dX5_down_58 gX5_down_X5_become rfl hd_X5_become rfl ⟨by decide, by decide⟩ ⟨rfl, rfl⟩ (Nat.le_of_ble_eq_true rfl) ⟨by decide, by decide⟩ sm_mod (by decide) rfl rfl (fun v m9 hp => ?_) (fun _ _ hx => hx.elim)
  obtain ⟨rfl, rfl⟩ := hp
  refine PW.aload_n (i := 0) dX5_down_61 rfl rfl ?_
  refine PW.callV (k := kX5_down) (n := 0) (c5_settle (GN.leave hQ.thrZ hI hS hl).2) dX5_down_62 gX5_down_X5_settle rfl hd_X5_settle rfl ⟨by decide, by decide⟩ ⟨rfl, rfl⟩ (Nat.le_of_ble_eq_true rfl) ⟨by decide, by decide⟩ sm_mod (by decide) rfl rfl (fun v m9 hp => ?_) (fun _ _ hx => hx.elim)
  obtain ⟨rfl, rfl⟩ := hp
  exact PW.vret dX5_down_65 rfl ⟨rfl, rfl⟩ (by decide) (by decide)
set_option maxRecDepth 100000 in
set_option maxHeartbeats 4000000 in
theorem c5_digit_bad {M N : dM} {R : pM} (x d : Int32) (hb : g_in x 0 23 = false ∨ g_in d 0 9 = false) (l9 : Launch) : pMet l9 yX5_digit kX5_digit false [.ref 44, .int x, .int d] (SM M ++ (MM N ++ R)) (fun v m9 => v = some (.int (0)) ∧ m9 = SM M ++ (MM (up2 N 39 7 1) ++ R)) (fun _ _ => False) := by
  refine pMet.of (by decide) rfl rfl rfl (by intro v hv; simp only [List.mem_cons, List.not_mem_nil, or_false] at hv; rcases hv with rfl | rfl | rfl <;> rfl) (Nat.le_of_ble_eq_true rfl) ?_
  show PW _ _ _ _ _ 0 [some (.ref 44), some (.int x), some (.int d)] [] (SM M ++ (MM N ++ R)) 0 0
  cases e : g_in x 0 23
  · skip
    refine PW.aload_n (i := 0) dX5_digit_0 rfl rfl ?_
    refine PW.iload_n (i := 1) dX5_digit_1 rfl rfl ?_
    refine PW.callS (k := kX5_digit) (n := 1) (c5_isLine _) dX5_digit_2 gX5_digit_X5_isLine rfl hs_X5_isLine rfl ⟨by decide, by decide⟩ ⟨rfl, rfl⟩ (Nat.le_of_ble_eq_true rfl) ⟨by decide, by decide⟩ rfl (fun v m9 hp => ?_) (fun _ _ hx => hx.elim)
    obtain ⟨rfl, rfl⟩ := hp
    rw [e]
    refine PW.if_eq (tgt := 18) dX5_digit_5 (by decide) (fun _ => ?_) (fun h5 => absurd (by decide) h5)
    refine PW.iconst (v := 1) dX5_digit_18 (by decide) ?_
    refine PW.goto (tgt := 23) dX5_digit_19 (by decide) ?_
    refine PW.iconst (v := 0) dX5_digit_23 (by decide) ?_
    refine PW.callV (k := kX5_digit) (n := 2) (c5_throwing true false) dX5_digit_24 gX5_digit_X5_throwing rfl hd_X5_throwing rfl ⟨by decide, by decide⟩ ⟨rfl, rfl⟩ (Nat.le_of_ble_eq_true rfl) ⟨by decide, by decide⟩ sm_mod (by decide) rfl rfl (fun v m9 hp => ?_) (fun _ _ hx => hx.elim)
    obtain ⟨rfl, rfl⟩ := hp
    refine PW.if_eq (tgt := 32) dX5_digit_27 (by decide) (fun h27 => absurd h27 (by decide)) (fun _ => ?_)
    refine PW.iconst (v := 0) dX5_digit_30 (by decide) ?_
    exact PW.iret dX5_digit_31 rfl ⟨rfl, rfl⟩ (by decide) (by decide)
  · skip
    refine PW.aload_n (i := 0) dX5_digit_0 rfl rfl ?_
    refine PW.iload_n (i := 1) dX5_digit_1 rfl rfl ?_
    refine PW.callS (k := kX5_digit) (n := 1) (c5_isLine _) dX5_digit_2 gX5_digit_X5_isLine rfl hs_X5_isLine rfl ⟨by decide, by decide⟩ ⟨rfl, rfl⟩ (Nat.le_of_ble_eq_true rfl) ⟨by decide, by decide⟩ rfl (fun v m9 hp => ?_) (fun _ _ hx => hx.elim)
    obtain ⟨rfl, rfl⟩ := hp
    rw [e]
    refine PW.if_eq (tgt := 18) dX5_digit_5 (by decide) (fun h5 => absurd h5 (by decide)) (fun _ => ?_)
    refine PW.iload_n (i := 2) dX5_digit_8 rfl rfl ?_
    refine PW.iconst (v := 0) dX5_digit_9 (by decide) ?_
    refine PW.bipush (v := 9) dX5_digit_10 (by decide) ?_
    refine PW.callS (k := kX5_digit) (n := 3) (c5_in _ _ _) dX5_digit_12 gX5_digit_X5_in rfl hs_X5_in rfl ⟨by decide, by decide⟩ ⟨rfl, rfl⟩ (Nat.le_of_ble_eq_true rfl) ⟨by decide, by decide⟩ rfl (fun v m9 hp => ?_) (fun _ _ hx => hx.elim)
    obtain ⟨rfl, rfl⟩ := hp
    rw [(hb.resolve_left (by rw [e]; decide))]
    refine PW.if_ne (tgt := 22) dX5_digit_15 (by decide) (fun h15 => absurd h15 (by decide)) (fun _ => ?_)
    refine PW.iconst (v := 1) dX5_digit_18 (by decide) ?_
    refine PW.goto (tgt := 23) dX5_digit_19 (by decide) ?_
    refine PW.iconst (v := 0) dX5_digit_23 (by decide) ?_
    refine PW.callV (k := kX5_digit) (n := 2) (c5_throwing true false) dX5_digit_24 gX5_digit_X5_throwing rfl hd_X5_throwing rfl ⟨by decide, by decide⟩ ⟨rfl, rfl⟩ (Nat.le_of_ble_eq_true rfl) ⟨by decide, by decide⟩ sm_mod (by decide) rfl rfl (fun v m9 hp => ?_) (fun _ _ hx => hx.elim)
    obtain ⟨rfl, rfl⟩ := hp
    refine PW.if_eq (tgt := 32) dX5_digit_27 (by decide) (fun h27 => absurd h27 (by decide)) (fun _ => ?_)
    refine PW.iconst (v := 0) dX5_digit_30 (by decide) ?_
    exact PW.iret dX5_digit_31 rfl ⟨rfl, rfl⟩ (by decide) (by decide)
set_option maxRecDepth 100000 in
set_option maxHeartbeats 4000000 in
theorem c5_digit_ok {M N : dM} {R : pM} {Q : dM} (hQ : Rx 24 Q N) (hI : Iv 24 Q) (hS : Sf Q) (ht : Q 39 5 < 2147483647) {l : Nat} (hl : l < 24) (d : Int32) (hd : g_in d 0 9 = true) (l9 : Launch) : pMet l9 yX5_digit kX5_digit false [.ref 44, .int (nI l), .int d] (SM M ++ (MM N ++ R)) (fun v m9 => v = some (.int (g_digit (Z N) l d l 1)) ∧ m9 = SM M ++ (MM (g_digit (Z N) l d) ++ R)) (fun _ _ => False) := by
  refine pMet.of (by decide) rfl rfl rfl (by intro v hv; simp only [List.mem_cons, List.not_mem_nil, or_false] at hv; rcases hv with rfl | rfl | rfl <;> rfl) (Nat.le_of_ble_eq_true rfl) ?_
  show PW _ _ _ _ _ 0 [some (.ref 44), some (.int (nI l)), some (.int d)] [] (SM M ++ (MM N ++ R)) 0 0
  rcases (show N l 1 = 1 ∨ N l 1 = 2 ∨ (¬ N l 1 = 1 ∧ ¬ N l 1 = 2) by by_cases h1 : N l 1 = 1; exact Or.inl h1; by_cases h2 : N l 1 = 2; exact Or.inr (Or.inl h2); exact Or.inr (Or.inr ⟨h1, h2⟩)) with h1 | h2 | ⟨h1, h2⟩
  · skip
    refine PW.aload_n (i := 0) dX5_digit_0 rfl rfl ?_
    refine PW.iload_n (i := 1) dX5_digit_1 rfl rfl ?_
    refine PW.callS (k := kX5_digit) (n := 1) (c5_isLine _) dX5_digit_2 gX5_digit_X5_isLine rfl hs_X5_isLine rfl ⟨by decide, by decide⟩ ⟨rfl, rfl⟩ (Nat.le_of_ble_eq_true rfl) ⟨by decide, by decide⟩ rfl (fun v m9 hp => ?_) (fun _ _ hx => hx.elim)
    obtain ⟨rfl, rfl⟩ := hp
    rw [inL hl]
    refine PW.if_eq (tgt := 18) dX5_digit_5 (by decide) (fun h5 => absurd h5 (by decide)) (fun _ => ?_)
    refine PW.iload_n (i := 2) dX5_digit_8 rfl rfl ?_
    refine PW.iconst (v := 0) dX5_digit_9 (by decide) ?_
    refine PW.bipush (v := 9) dX5_digit_10 (by decide) ?_
    refine PW.callS (k := kX5_digit) (n := 3) (c5_in _ _ _) dX5_digit_12 gX5_digit_X5_in rfl hs_X5_in rfl ⟨by decide, by decide⟩ ⟨rfl, rfl⟩ (Nat.le_of_ble_eq_true rfl) ⟨by decide, by decide⟩ rfl (fun v m9 hp => ?_) (fun _ _ hx => hx.elim)
    obtain ⟨rfl, rfl⟩ := hp
    rw [hd]
    refine PW.if_ne (tgt := 22) dX5_digit_15 (by decide) (fun _ => ?_) (fun h15 => absurd h15 (by decide))
    refine PW.iconst (v := 0) dX5_digit_22 (by decide) ?_
    refine PW.iconst (v := 0) dX5_digit_23 (by decide) ?_
    refine PW.callV (k := kX5_digit) (n := 2) (c5_throwing false false) dX5_digit_24 gX5_digit_X5_throwing rfl hd_X5_throwing rfl ⟨by decide, by decide⟩ ⟨rfl, rfl⟩ (Nat.le_of_ble_eq_true rfl) ⟨by decide, by decide⟩ sm_mod (by decide) rfl rfl (fun v m9 hp => ?_) (fun _ _ hx => hx.elim)
    obtain ⟨rfl, rfl⟩ := hp
    rw [show up2 N 39 7 (thr false false) = Z N from rfl]
    refine PW.if_eq (tgt := 32) dX5_digit_27 (by decide) (fun _ => ?_) (fun h27 => absurd (by decide) h27)
    have z1 : Z N l 1 = N l 1 := by rw [Z_row (by omega)]
    refine PW.aload_n (i := 0) dX5_digit_32 rfl rfl ?_
    refine PW.getf FX5_digit_7 dX5_digit_33 sm_mod rfl ?_
    refine PW.iload_n (i := 1) dX5_digit_36 rfl rfl ?_
    refine PW.iald dX5_digit_37 ma_state rfl (Nat.lt_trans hl (by decide)) (mg_state hl) ?_
    refine PW.iconst (v := 1) dX5_digit_38 (by decide) ?_
    refine PW.icmp_ne (tgt := 58) dX5_digit_39 (by decide) (fun h39 => absurd h39 (fun z => z (z1.trans h1))) (fun _ => ?_)
    refine PW.aload_n (i := 0) dX5_digit_42 rfl rfl ?_
    refine PW.iload_n (i := 1) dX5_digit_43 rfl rfl ?_
    refine PW.iconst (v := 2) dX5_digit_44 (by decide) ?_
    refine PW.callV (k := kX5_digit) (n := 2) (c5_become hl _) dX5_digit_45 gX5_digit_X5_become rfl hd_X5_become rfl ⟨by decide, by decide⟩ ⟨rfl, rfl⟩ (Nat.le_of_ble_eq_true rfl) ⟨by decide, by decide⟩ sm_mod (by decide) rfl rfl (fun v m9 hp => ?_) (fun _ _ hx => hx.elim)
    obtain ⟨rfl, rfl⟩ := hp
    refine PW.aload_n (i := 0) dX5_digit_48 rfl rfl ?_
    refine PW.getf FX5_digit_19 dX5_digit_49 sm_mod rfl ?_
    refine PW.iload_n (i := 1) dX5_digit_52 rfl rfl ?_
    refine PW.iload_n (i := 2) dX5_digit_53 rfl rfl ?_
    refine PW.iast dX5_digit_54 ma_digits rfl (Nat.lt_trans hl (by decide)) (by rw [maF_len]; exact hl)  (pm_digits hl) ?_
    refine PW.goto (tgt := 88) dX5_digit_55 (by decide) ?_
    refine PW.aload_n (i := 0) dX5_digit_88 rfl rfl ?_
    refine PW.getf FX5_digit_7 dX5_digit_89 sm_mod rfl ?_
    refine PW.iload_n (i := 1) dX5_digit_92 rfl rfl ?_
    refine PW.iald dX5_digit_93 ma_state rfl (Nat.lt_trans hl (by decide)) (mg_state hl) ?_
    exact PW.iret dX5_digit_94 rfl ⟨by rw [g_digit, if_pos (z1.trans h1)], by rw [g_digit, if_pos (z1.trans h1)]⟩ (by decide) (by decide)
  · skip
    refine PW.aload_n (i := 0) dX5_digit_0 rfl rfl ?_
    refine PW.iload_n (i := 1) dX5_digit_1 rfl rfl ?_
    refine PW.callS (k := kX5_digit) (n := 1) (c5_isLine _) dX5_digit_2 gX5_digit_X5_isLine rfl hs_X5_isLine rfl ⟨by decide, by decide⟩ ⟨rfl, rfl⟩ (Nat.le_of_ble_eq_true rfl) ⟨by decide, by decide⟩ rfl (fun v m9 hp => ?_) (fun _ _ hx => hx.elim)
    obtain ⟨rfl, rfl⟩ := hp
    rw [inL hl]
    refine PW.if_eq (tgt := 18) dX5_digit_5 (by decide) (fun h5 => absurd h5 (by decide)) (fun _ => ?_)
    refine PW.iload_n (i := 2) dX5_digit_8 rfl rfl ?_
    refine PW.iconst (v := 0) dX5_digit_9 (by decide) ?_
    refine PW.bipush (v := 9) dX5_digit_10 (by decide) ?_
    refine PW.callS (k := kX5_digit) (n := 3) (c5_in _ _ _) dX5_digit_12 gX5_digit_X5_in rfl hs_X5_in rfl ⟨by decide, by decide⟩ ⟨rfl, rfl⟩ (Nat.le_of_ble_eq_true rfl) ⟨by decide, by decide⟩ rfl (fun v m9 hp => ?_) (fun _ _ hx => hx.elim)
    obtain ⟨rfl, rfl⟩ := hp
    rw [hd]
    refine PW.if_ne (tgt := 22) dX5_digit_15 (by decide) (fun _ => ?_) (fun h15 => absurd h15 (by decide))
    refine PW.iconst (v := 0) dX5_digit_22 (by decide) ?_
    refine PW.iconst (v := 0) dX5_digit_23 (by decide) ?_
    refine PW.callV (k := kX5_digit) (n := 2) (c5_throwing false false) dX5_digit_24 gX5_digit_X5_throwing rfl hd_X5_throwing rfl ⟨by decide, by decide⟩ ⟨rfl, rfl⟩ (Nat.le_of_ble_eq_true rfl) ⟨by decide, by decide⟩ sm_mod (by decide) rfl rfl (fun v m9 hp => ?_) (fun _ _ hx => hx.elim)
    obtain ⟨rfl, rfl⟩ := hp
    rw [show up2 N 39 7 (thr false false) = Z N from rfl]
    refine PW.if_eq (tgt := 32) dX5_digit_27 (by decide) (fun _ => ?_) (fun h27 => absurd (by decide) h27)
    have z1 : Z N l 1 = N l 1 := by rw [Z_row (by omega)]
    have zQ := hQ.thrZ
    have hx := zQ.ex0 (CW_of (t := Z N 39 5) (zQ.1 l hl (by omega)).1 (zQ.1 l hl (by omega)).2 (Or.inl (by rw [(zQ.1 l hl (by omega)).1.1]; exact z1.trans h2)))
    have hq2 : Q l 1 = 2 := by rw [(zQ.1 l hl (by omega)).1.1]; exact z1.trans h2
    refine PW.aload_n (i := 0) dX5_digit_32 rfl rfl ?_
    refine PW.getf FX5_digit_7 dX5_digit_33 sm_mod rfl ?_
    refine PW.iload_n (i := 1) dX5_digit_36 rfl rfl ?_
    refine PW.iald dX5_digit_37 ma_state rfl (Nat.lt_trans hl (by decide)) (mg_state hl) ?_
    refine PW.iconst (v := 1) dX5_digit_38 (by decide) ?_
    refine PW.icmp_ne (tgt := 58) dX5_digit_39 (by decide) (fun _ => ?_) (fun h39 => absurd h39 (fun z => absurd (h2.symm.trans (z1.symm.trans z)) (by decide)))
    refine PW.aload_n (i := 0) dX5_digit_58 rfl rfl ?_
    refine PW.getf FX5_digit_7 dX5_digit_59 sm_mod rfl ?_
    refine PW.iload_n (i := 1) dX5_digit_62 rfl rfl ?_
    refine PW.iald dX5_digit_63 ma_state rfl (Nat.lt_trans hl (by decide)) (mg_state hl) ?_
    refine PW.iconst (v := 2) dX5_digit_64 (by decide) ?_
    refine PW.icmp_ne (tgt := 88) dX5_digit_65 (by decide) (fun h65 => absurd h65 (fun z => z (z1.trans h2))) (fun _ => ?_)
    refine PW.aload_n (i := 0) dX5_digit_68 rfl rfl ?_
    refine PW.iload_n (i := 1) dX5_digit_69 rfl rfl ?_
    refine PW.bipush (v := 10) dX5_digit_70 (by decide) ?_
    refine PW.aload_n (i := 0) dX5_digit_72 rfl rfl ?_
    refine PW.getf FX5_digit_19 dX5_digit_73 sm_mod rfl ?_
    refine PW.iload_n (i := 1) dX5_digit_76 rfl rfl ?_
    refine PW.iald dX5_digit_77 ma_digits rfl (Nat.lt_trans hl (by decide)) (mg_digits hl) ?_
    refine PW.imul dX5_digit_78 ?_
    refine PW.iload_n (i := 2) dX5_digit_79 rfl rfl ?_
    refine PW.iadd dX5_digit_80 ?_
    refine PW.callV (k := kX5_digit) (n := 2) (c5_call hx hS hl _) dX5_digit_81 gX5_digit_X5_call rfl hd_X5_call rfl ⟨by decide, by decide⟩ ⟨rfl, rfl⟩ (Nat.le_of_ble_eq_true rfl) ⟨by decide, by decide⟩ sm_mod (by decide) rfl rfl (fun v m9 hp => ?_) (fun _ _ hx => hx.elim)
    obtain ⟨rfl, rfl⟩ := hp
    refine PW.aload_n (i := 0) dX5_digit_84 rfl rfl ?_
    refine PW.callV (k := kX5_digit) (n := 0) (c5_settle ⟨_, (call_eq (x := 10 * Z N l 6 + d) hx hI hS ht (Or.inl hq2) hl).1, (call_eq hx hI hS ht (Or.inl hq2) hl).2, hS.call hl⟩) dX5_digit_85 gX5_digit_X5_settle rfl hd_X5_settle rfl ⟨by decide, by decide⟩ ⟨rfl, rfl⟩ (Nat.le_of_ble_eq_true rfl) ⟨by decide, by decide⟩ sm_mod (by decide) rfl rfl (fun v m9 hp => ?_) (fun _ _ hx => hx.elim)
    obtain ⟨rfl, rfl⟩ := hp
    refine PW.aload_n (i := 0) dX5_digit_88 rfl rfl ?_
    refine PW.getf FX5_digit_7 dX5_digit_89 sm_mod rfl ?_
    refine PW.iload_n (i := 1) dX5_digit_92 rfl rfl ?_
    refine PW.iald dX5_digit_93 ma_state rfl (Nat.lt_trans hl (by decide)) (mg_state hl) ?_
    exact PW.iret dX5_digit_94 rfl ⟨by rw [g_digit, if_neg (fun z => absurd (h2.symm.trans (z1.symm.trans z)) (by decide)), if_pos (z1.trans h2)], by rw [g_digit, if_neg (fun z => absurd (h2.symm.trans (z1.symm.trans z)) (by decide)), if_pos (z1.trans h2)]⟩ (by decide) (by decide)
  · skip
    refine PW.aload_n (i := 0) dX5_digit_0 rfl rfl ?_
    refine PW.iload_n (i := 1) dX5_digit_1 rfl rfl ?_
    refine PW.callS (k := kX5_digit) (n := 1) (c5_isLine _) dX5_digit_2 gX5_digit_X5_isLine rfl hs_X5_isLine rfl ⟨by decide, by decide⟩ ⟨rfl, rfl⟩ (Nat.le_of_ble_eq_true rfl) ⟨by decide, by decide⟩ rfl (fun v m9 hp => ?_) (fun _ _ hx => hx.elim)
    obtain ⟨rfl, rfl⟩ := hp
    rw [inL hl]
    refine PW.if_eq (tgt := 18) dX5_digit_5 (by decide) (fun h5 => absurd h5 (by decide)) (fun _ => ?_)
    refine PW.iload_n (i := 2) dX5_digit_8 rfl rfl ?_
    refine PW.iconst (v := 0) dX5_digit_9 (by decide) ?_
    refine PW.bipush (v := 9) dX5_digit_10 (by decide) ?_
    refine PW.callS (k := kX5_digit) (n := 3) (c5_in _ _ _) dX5_digit_12 gX5_digit_X5_in rfl hs_X5_in rfl ⟨by decide, by decide⟩ ⟨rfl, rfl⟩ (Nat.le_of_ble_eq_true rfl) ⟨by decide, by decide⟩ rfl (fun v m9 hp => ?_) (fun _ _ hx => hx.elim)
    obtain ⟨rfl, rfl⟩ := hp
    rw [hd]
    refine PW.if_ne (tgt := 22) dX5_digit_15 (by decide) (fun _ => ?_) (fun h15 => absurd h15 (by decide))
    refine PW.iconst (v := 0) dX5_digit_22 (by decide) ?_
    refine PW.iconst (v := 0) dX5_digit_23 (by decide) ?_
    refine PW.callV (k := kX5_digit) (n := 2) (c5_throwing false false) dX5_digit_24 gX5_digit_X5_throwing rfl hd_X5_throwing rfl ⟨by decide, by decide⟩ ⟨rfl, rfl⟩ (Nat.le_of_ble_eq_true rfl) ⟨by decide, by decide⟩ sm_mod (by decide) rfl rfl (fun v m9 hp => ?_) (fun _ _ hx => hx.elim)
    obtain ⟨rfl, rfl⟩ := hp
    rw [show up2 N 39 7 (thr false false) = Z N from rfl]
    refine PW.if_eq (tgt := 32) dX5_digit_27 (by decide) (fun _ => ?_) (fun h27 => absurd (by decide) h27)
    have z1 : Z N l 1 = N l 1 := by rw [Z_row (by omega)]
    refine PW.aload_n (i := 0) dX5_digit_32 rfl rfl ?_
    refine PW.getf FX5_digit_7 dX5_digit_33 sm_mod rfl ?_
    refine PW.iload_n (i := 1) dX5_digit_36 rfl rfl ?_
    refine PW.iald dX5_digit_37 ma_state rfl (Nat.lt_trans hl (by decide)) (mg_state hl) ?_
    refine PW.iconst (v := 1) dX5_digit_38 (by decide) ?_
    refine PW.icmp_ne (tgt := 58) dX5_digit_39 (by decide) (fun _ => ?_) (fun h39 => absurd h39 (fun z => h1 (z1.symm.trans z)))
    refine PW.aload_n (i := 0) dX5_digit_58 rfl rfl ?_
    refine PW.getf FX5_digit_7 dX5_digit_59 sm_mod rfl ?_
    refine PW.iload_n (i := 1) dX5_digit_62 rfl rfl ?_
    refine PW.iald dX5_digit_63 ma_state rfl (Nat.lt_trans hl (by decide)) (mg_state hl) ?_
    refine PW.iconst (v := 2) dX5_digit_64 (by decide) ?_
    refine PW.icmp_ne (tgt := 88) dX5_digit_65 (by decide) (fun _ => ?_) (fun h65 => absurd h65 (fun z => h2 (z1.symm.trans z)))
    refine PW.aload_n (i := 0) dX5_digit_88 rfl rfl ?_
    refine PW.getf FX5_digit_7 dX5_digit_89 sm_mod rfl ?_
    refine PW.iload_n (i := 1) dX5_digit_92 rfl rfl ?_
    refine PW.iald dX5_digit_93 ma_state rfl (Nat.lt_trans hl (by decide)) (mg_state hl) ?_
    exact PW.iret dX5_digit_94 rfl ⟨by rw [g_digit, if_neg (fun z => h1 (z1.symm.trans z)), if_neg (fun z => h2 (z1.symm.trans z))], by rw [g_digit, if_neg (fun z => h1 (z1.symm.trans z)), if_neg (fun z => h2 (z1.symm.trans z))]⟩ (by decide) (by decide)
set_option maxRecDepth 100000 in
set_option maxHeartbeats 4000000 in
theorem c5_camp_bad {M N : dM} {R : pM} (x : Int32) (hb : g_in x 0 23 = false) (l9 : Launch) : pMet l9 yX5_camp kX5_camp false [.ref 44, .int x] (SM M ++ (MM N ++ R)) (fun v m9 => v = some (.int (0)) ∧ m9 = SM M ++ (MM (up2 N 39 7 1) ++ R)) (fun _ _ => False) := by
  refine pMet.of (by decide) rfl rfl rfl (by intro v hv; simp only [List.mem_cons, List.not_mem_nil, or_false] at hv; rcases hv with rfl | rfl <;> rfl) (Nat.le_of_ble_eq_true rfl) ?_
  show PW _ _ _ _ _ 0 [some (.ref 44), some (.int x), none, none] [] (SM M ++ (MM N ++ R)) 0 0
  refine PW.iload_n (i := 1) dX5_camp_0 rfl rfl ?_
  refine PW.callS (k := kX5_camp) (n := 1) (c5_isLine _) dX5_camp_1 gX5_camp_X5_isLine rfl hs_X5_isLine rfl ⟨by decide, by decide⟩ ⟨rfl, rfl⟩ (Nat.le_of_ble_eq_true rfl) ⟨by decide, by decide⟩ rfl (fun v m9 hp => ?_) (fun _ _ hx => hx.elim)
  obtain ⟨rfl, rfl⟩ := hp
  rw [hb]
  refine PW.if_ne (tgt := 11) dX5_camp_4 (by decide) (fun h4 => absurd h4 (by decide)) (fun _ => ?_)
  refine PW.iconst (v := 1) dX5_camp_7 (by decide) ?_
  refine PW.goto (tgt := 12) dX5_camp_8 (by decide) ?_
  refine PW.istore_n (i := 2) dX5_camp_12 rfl (by decide) rfl ?_
  refine PW.iload_n (i := 2) dX5_camp_13 rfl rfl ?_
  refine PW.if_eq (tgt := 21) dX5_camp_14 (by decide) (fun h14 => absurd h14 (by decide)) (fun _ => ?_)
  refine PW.iconst (v := (-1)) dX5_camp_17 (by decide) ?_
  refine PW.goto (tgt := 27) dX5_camp_18 (by decide) ?_
  refine PW.istore_n (i := 3) dX5_camp_27 rfl (by decide) rfl ?_
  refine PW.aload_n (i := 0) dX5_camp_28 rfl rfl ?_
  refine PW.iload_n (i := 2) dX5_camp_29 rfl rfl ?_
  refine PW.iload_n (i := 2) dX5_camp_30 rfl rfl ?_
  refine PW.if_ne (tgt := 70) dX5_camp_31 (by decide) (fun _ => ?_) (fun h31 => absurd h31 (by decide))
  refine PW.iconst (v := 0) dX5_camp_70 (by decide) ?_
  refine PW.callV (k := kX5_camp) (n := 2) (c5_throwing true false) dX5_camp_71 gX5_camp_X5_throwing rfl hd_X5_throwing rfl ⟨by decide, by decide⟩ ⟨rfl, rfl⟩ (Nat.le_of_ble_eq_true rfl) ⟨by decide, by decide⟩ sm_mod (by decide) rfl rfl (fun v m9 hp => ?_) (fun _ _ hx => hx.elim)
  obtain ⟨rfl, rfl⟩ := hp
  refine PW.if_eq (tgt := 79) dX5_camp_74 (by decide) (fun h74 => absurd h74 (by decide)) (fun _ => ?_)
  refine PW.iconst (v := 0) dX5_camp_77 (by decide) ?_
  exact PW.iret dX5_camp_78 rfl ⟨rfl, rfl⟩ (by decide) (by decide)
def okC5 (N : dM) (l : Nat) : Prop := N l 1 = 5 ∧ ¬ N l 5 < 0 ∧ ¬ N (ltf N l) 1 = 0 ∧ N (ltf N l) 10 < 0
set_option maxRecDepth 100000 in
set_option maxHeartbeats 4000000 in
theorem c5_camp_two {M N : dM} {R : pM} {l : Nat} (hl : l < 24) (hL : N l 5 = -1 ∨ ∃ m, m < 24 ∧ N l 5 = nI m) (h2 : ¬ okC5 N l) (l9 : Launch) : pMet l9 yX5_camp kX5_camp false [.ref 44, .int (nI l)] (SM M ++ (MM N ++ R)) (fun v m9 => v = some (.int (0)) ∧ m9 = SM M ++ (MM (up2 N 39 7 2) ++ R)) (fun _ _ => False) := by
  refine pMet.of (by decide) rfl rfl rfl (by intro v hv; simp only [List.mem_cons, List.not_mem_nil, or_false] at hv; rcases hv with rfl | rfl <;> rfl) (Nat.le_of_ble_eq_true rfl) ?_
  show PW _ _ _ _ _ 0 [some (.ref 44), some (.int (nI l)), none, none] [] (SM M ++ (MM N ++ R)) 0 0
  rcases hL with e5 | ⟨m, hm, e5⟩
  · skip
    refine PW.iload_n (i := 1) dX5_camp_0 rfl rfl ?_
    refine PW.callS (k := kX5_camp) (n := 1) (c5_isLine _) dX5_camp_1 gX5_camp_X5_isLine rfl hs_X5_isLine rfl ⟨by decide, by decide⟩ ⟨rfl, rfl⟩ (Nat.le_of_ble_eq_true rfl) ⟨by decide, by decide⟩ rfl (fun v m9 hp => ?_) (fun _ _ hx => hx.elim)
    obtain ⟨rfl, rfl⟩ := hp
    rw [inL hl]
    refine PW.if_ne (tgt := 11) dX5_camp_4 (by decide) (fun _ => ?_) (fun h4 => absurd h4 (by decide))
    refine PW.iconst (v := 0) dX5_camp_11 (by decide) ?_
    refine PW.istore_n (i := 2) dX5_camp_12 rfl (by decide) rfl ?_
    refine PW.iload_n (i := 2) dX5_camp_13 rfl rfl ?_
    refine PW.if_eq (tgt := 21) dX5_camp_14 (by decide) (fun _ => ?_) (fun h14 => absurd (by decide) h14)
    refine PW.aload_n (i := 0) dX5_camp_21 rfl rfl ?_
    refine PW.getf FX5_camp_31 dX5_camp_22 sm_mod rfl ?_
    refine PW.iload_n (i := 1) dX5_camp_25 rfl rfl ?_
    refine PW.iald dX5_camp_26 ma_late rfl (Nat.lt_trans hl (by decide)) (mg_late hl) ?_
    rw [e5]
    refine PW.istore_n (i := 3) dX5_camp_27 rfl (by decide) rfl ?_
    refine PW.aload_n (i := 0) dX5_camp_28 rfl rfl ?_
    refine PW.iload_n (i := 2) dX5_camp_29 rfl rfl ?_
    refine PW.iload_n (i := 2) dX5_camp_30 rfl rfl ?_
    refine PW.if_ne (tgt := 70) dX5_camp_31 (by decide) (fun h31 => absurd h31 (by decide)) (fun _ => ?_)
    refine PW.aload_n (i := 0) dX5_camp_34 rfl rfl ?_
    refine PW.getf FX5_camp_7 dX5_camp_35 sm_mod rfl ?_
    refine PW.iload_n (i := 1) dX5_camp_38 rfl rfl ?_
    refine PW.iald dX5_camp_39 ma_state rfl (Nat.lt_trans hl (by decide)) (mg_state hl) ?_
    refine PW.iconst (v := 5) dX5_camp_40 (by decide) ?_
    refine PW.icmp_ne (tgt := 66) dX5_camp_41 (by decide) (fun h41 => ?_) (fun h41 => ?_)
    · refine PW.iconst (v := 1) dX5_camp_66 (by decide) ?_
      refine PW.goto (tgt := 71) dX5_camp_67 (by decide) ?_
      refine PW.callV (k := kX5_camp) (n := 2) (c5_throwing false true) dX5_camp_71 gX5_camp_X5_throwing rfl hd_X5_throwing rfl ⟨by decide, by decide⟩ ⟨rfl, rfl⟩ (Nat.le_of_ble_eq_true rfl) ⟨by decide, by decide⟩ sm_mod (by decide) rfl rfl (fun v m9 hp => ?_) (fun _ _ hx => hx.elim)
      obtain ⟨rfl, rfl⟩ := hp
      refine PW.if_eq (tgt := 79) dX5_camp_74 (by decide) (fun h74 => absurd h74 (by decide)) (fun _ => ?_)
      refine PW.iconst (v := 0) dX5_camp_77 (by decide) ?_
      exact PW.iret dX5_camp_78 rfl ⟨rfl, rfl⟩ (by decide) (by decide)
    · refine PW.iload_n (i := 3) dX5_camp_44 rfl rfl ?_
      refine PW.if_lt (tgt := 66) dX5_camp_45 (by decide) (fun _ => ?_) (fun h45 => absurd (by decide) h45)
      refine PW.iconst (v := 1) dX5_camp_66 (by decide) ?_
      refine PW.goto (tgt := 71) dX5_camp_67 (by decide) ?_
      refine PW.callV (k := kX5_camp) (n := 2) (c5_throwing false true) dX5_camp_71 gX5_camp_X5_throwing rfl hd_X5_throwing rfl ⟨by decide, by decide⟩ ⟨rfl, rfl⟩ (Nat.le_of_ble_eq_true rfl) ⟨by decide, by decide⟩ sm_mod (by decide) rfl rfl (fun v m9 hp => ?_) (fun _ _ hx => hx.elim)
      obtain ⟨rfl, rfl⟩ := hp
      refine PW.if_eq (tgt := 79) dX5_camp_74 (by decide) (fun h74 => absurd h74 (by decide)) (fun _ => ?_)
      refine PW.iconst (v := 0) dX5_camp_77 (by decide) ?_
      exact PW.iret dX5_camp_78 rfl ⟨rfl, rfl⟩ (by decide) (by decide)
  · skip
    refine PW.iload_n (i := 1) dX5_camp_0 rfl rfl ?_
    refine PW.callS (k := kX5_camp) (n := 1) (c5_isLine _) dX5_camp_1 gX5_camp_X5_isLine rfl hs_X5_isLine rfl ⟨by decide, by decide⟩ ⟨rfl, rfl⟩ (Nat.le_of_ble_eq_true rfl) ⟨by decide, by decide⟩ rfl (fun v m9 hp => ?_) (fun _ _ hx => hx.elim)
    obtain ⟨rfl, rfl⟩ := hp
    rw [inL hl]
    refine PW.if_ne (tgt := 11) dX5_camp_4 (by decide) (fun _ => ?_) (fun h4 => absurd h4 (by decide))
    refine PW.iconst (v := 0) dX5_camp_11 (by decide) ?_
    refine PW.istore_n (i := 2) dX5_camp_12 rfl (by decide) rfl ?_
    refine PW.iload_n (i := 2) dX5_camp_13 rfl rfl ?_
    refine PW.if_eq (tgt := 21) dX5_camp_14 (by decide) (fun _ => ?_) (fun h14 => absurd (by decide) h14)
    refine PW.aload_n (i := 0) dX5_camp_21 rfl rfl ?_
    refine PW.getf FX5_camp_31 dX5_camp_22 sm_mod rfl ?_
    refine PW.iload_n (i := 1) dX5_camp_25 rfl rfl ?_
    refine PW.iald dX5_camp_26 ma_late rfl (Nat.lt_trans hl (by decide)) (mg_late hl) ?_
    rw [e5]
    refine PW.istore_n (i := 3) dX5_camp_27 rfl (by decide) rfl ?_
    refine PW.aload_n (i := 0) dX5_camp_28 rfl rfl ?_
    refine PW.iload_n (i := 2) dX5_camp_29 rfl rfl ?_
    refine PW.iload_n (i := 2) dX5_camp_30 rfl rfl ?_
    refine PW.if_ne (tgt := 70) dX5_camp_31 (by decide) (fun h31 => absurd h31 (by decide)) (fun _ => ?_)
    refine PW.aload_n (i := 0) dX5_camp_34 rfl rfl ?_
    refine PW.getf FX5_camp_7 dX5_camp_35 sm_mod rfl ?_
    refine PW.iload_n (i := 1) dX5_camp_38 rfl rfl ?_
    refine PW.iald dX5_camp_39 ma_state rfl (Nat.lt_trans hl (by decide)) (mg_state hl) ?_
    refine PW.iconst (v := 5) dX5_camp_40 (by decide) ?_
    refine PW.icmp_ne (tgt := 66) dX5_camp_41 (by decide) (fun h41 => ?_) (fun h41 => ?_)
    · refine PW.iconst (v := 1) dX5_camp_66 (by decide) ?_
      refine PW.goto (tgt := 71) dX5_camp_67 (by decide) ?_
      refine PW.callV (k := kX5_camp) (n := 2) (c5_throwing false true) dX5_camp_71 gX5_camp_X5_throwing rfl hd_X5_throwing rfl ⟨by decide, by decide⟩ ⟨rfl, rfl⟩ (Nat.le_of_ble_eq_true rfl) ⟨by decide, by decide⟩ sm_mod (by decide) rfl rfl (fun v m9 hp => ?_) (fun _ _ hx => hx.elim)
      obtain ⟨rfl, rfl⟩ := hp
      refine PW.if_eq (tgt := 79) dX5_camp_74 (by decide) (fun h74 => absurd h74 (by decide)) (fun _ => ?_)
      refine PW.iconst (v := 0) dX5_camp_77 (by decide) ?_
      exact PW.iret dX5_camp_78 rfl ⟨rfl, rfl⟩ (by decide) (by decide)
    · refine PW.iload_n (i := 3) dX5_camp_44 rfl rfl ?_
      refine PW.if_lt (tgt := 66) dX5_camp_45 (by decide) (fun h45 => absurd h45 (nI_pos (by omega))) (fun _ => ?_)
      refine PW.aload_n (i := 0) dX5_camp_48 rfl rfl ?_
      refine PW.getf FX5_camp_7 dX5_camp_49 sm_mod rfl ?_
      refine PW.iload_n (i := 3) dX5_camp_52 rfl rfl ?_
      refine PW.iald dX5_camp_53 ma_state rfl (Nat.lt_trans hm (by decide)) (mg_state hm) ?_
      refine PW.if_eq (tgt := 66) dX5_camp_54 (by decide) (fun h54 => ?_) (fun h54 => ?_)
      · refine PW.iconst (v := 1) dX5_camp_66 (by decide) ?_
        refine PW.goto (tgt := 71) dX5_camp_67 (by decide) ?_
        refine PW.callV (k := kX5_camp) (n := 2) (c5_throwing false true) dX5_camp_71 gX5_camp_X5_throwing rfl hd_X5_throwing rfl ⟨by decide, by decide⟩ ⟨rfl, rfl⟩ (Nat.le_of_ble_eq_true rfl) ⟨by decide, by decide⟩ sm_mod (by decide) rfl rfl (fun v m9 hp => ?_) (fun _ _ hx => hx.elim)
        obtain ⟨rfl, rfl⟩ := hp
        refine PW.if_eq (tgt := 79) dX5_camp_74 (by decide) (fun h74 => absurd h74 (by decide)) (fun _ => ?_)
        refine PW.iconst (v := 0) dX5_camp_77 (by decide) ?_
        exact PW.iret dX5_camp_78 rfl ⟨rfl, rfl⟩ (by decide) (by decide)
      · refine PW.aload_n (i := 0) dX5_camp_57 rfl rfl ?_
        refine PW.getf FX5_camp_47 dX5_camp_58 sm_mod rfl ?_
        refine PW.iload_n (i := 3) dX5_camp_61 rfl rfl ?_
        refine PW.iald dX5_camp_62 ma_camper rfl (Nat.lt_trans hm (by decide)) (mg_camper hm) ?_
        refine PW.if_lt (tgt := 70) dX5_camp_63 (by decide) (fun h63 => ?_) (fun h63 => ?_)
        · exact absurd (show okC5 N l from ⟨h41, by rw [e5]; exact nI_pos (by omega), by rw [ltf, e5, nI_clamp (by omega)]; exact h54, by rw [ltf, e5, nI_clamp (by omega)]; exact h63⟩) h2
        · refine PW.iconst (v := 1) dX5_camp_66 (by decide) ?_
          refine PW.goto (tgt := 71) dX5_camp_67 (by decide) ?_
          refine PW.callV (k := kX5_camp) (n := 2) (c5_throwing false true) dX5_camp_71 gX5_camp_X5_throwing rfl hd_X5_throwing rfl ⟨by decide, by decide⟩ ⟨rfl, rfl⟩ (Nat.le_of_ble_eq_true rfl) ⟨by decide, by decide⟩ sm_mod (by decide) rfl rfl (fun v m9 hp => ?_) (fun _ _ hx => hx.elim)
          obtain ⟨rfl, rfl⟩ := hp
          refine PW.if_eq (tgt := 79) dX5_camp_74 (by decide) (fun h74 => absurd h74 (by decide)) (fun _ => ?_)
          refine PW.iconst (v := 0) dX5_camp_77 (by decide) ?_
          exact PW.iret dX5_camp_78 rfl ⟨rfl, rfl⟩ (by decide) (by decide)
set_option maxRecDepth 100000 in
set_option maxHeartbeats 4000000 in
theorem c5_camp_ok {M N : dM} {R : pM} {l m : Nat} (hl : l < 24) (hm : m < 24) (h5 : N l 1 = 5) (e5 : N l 5 = nI m) (k2 : ¬ N m 1 = 0) (k3 : N m 10 < 0) (l9 : Launch) : pMet l9 yX5_camp kX5_camp false [.ref 44, .int (nI l)] (SM M ++ (MM N ++ R)) (fun v m9 => v = some (.int (nI m)) ∧ m9 = SM M ++ (MM (g_camp (Z N) l) ++ R)) (fun _ _ => False) := by
  refine pMet.of (by decide) rfl rfl rfl (by intro v hv; simp only [List.mem_cons, List.not_mem_nil, or_false] at hv; rcases hv with rfl | rfl <;> rfl) (Nat.le_of_ble_eq_true rfl) ?_
  show PW _ _ _ _ _ 0 [some (.ref 44), some (.int (nI l)), none, none] [] (SM M ++ (MM N ++ R)) 0 0
  refine PW.iload_n (i := 1) dX5_camp_0 rfl rfl ?_
  refine PW.callS (k := kX5_camp) (n := 1) (c5_isLine _) dX5_camp_1 gX5_camp_X5_isLine rfl hs_X5_isLine rfl ⟨by decide, by decide⟩ ⟨rfl, rfl⟩ (Nat.le_of_ble_eq_true rfl) ⟨by decide, by decide⟩ rfl (fun v m9 hp => ?_) (fun _ _ hx => hx.elim)
  obtain ⟨rfl, rfl⟩ := hp
  rw [inL hl]
  refine PW.if_ne (tgt := 11) dX5_camp_4 (by decide) (fun _ => ?_) (fun h4 => absurd h4 (by decide))
  refine PW.iconst (v := 0) dX5_camp_11 (by decide) ?_
  refine PW.istore_n (i := 2) dX5_camp_12 rfl (by decide) rfl ?_
  refine PW.iload_n (i := 2) dX5_camp_13 rfl rfl ?_
  refine PW.if_eq (tgt := 21) dX5_camp_14 (by decide) (fun _ => ?_) (fun h14 => absurd (by decide) h14)
  refine PW.aload_n (i := 0) dX5_camp_21 rfl rfl ?_
  refine PW.getf FX5_camp_31 dX5_camp_22 sm_mod rfl ?_
  refine PW.iload_n (i := 1) dX5_camp_25 rfl rfl ?_
  refine PW.iald dX5_camp_26 ma_late rfl (Nat.lt_trans hl (by decide)) (mg_late hl) ?_
  rw [e5]
  refine PW.istore_n (i := 3) dX5_camp_27 rfl (by decide) rfl ?_
  refine PW.aload_n (i := 0) dX5_camp_28 rfl rfl ?_
  refine PW.iload_n (i := 2) dX5_camp_29 rfl rfl ?_
  refine PW.iload_n (i := 2) dX5_camp_30 rfl rfl ?_
  refine PW.if_ne (tgt := 70) dX5_camp_31 (by decide) (fun h31 => absurd h31 (by decide)) (fun _ => ?_)
  refine PW.aload_n (i := 0) dX5_camp_34 rfl rfl ?_
  refine PW.getf FX5_camp_7 dX5_camp_35 sm_mod rfl ?_
  refine PW.iload_n (i := 1) dX5_camp_38 rfl rfl ?_
  refine PW.iald dX5_camp_39 ma_state rfl (Nat.lt_trans hl (by decide)) (mg_state hl) ?_
  refine PW.iconst (v := 5) dX5_camp_40 (by decide) ?_
  refine PW.icmp_ne (tgt := 66) dX5_camp_41 (by decide) (fun h41 => absurd h41 (fun z => z h5)) (fun _ => ?_)
  refine PW.iload_n (i := 3) dX5_camp_44 rfl rfl ?_
  refine PW.if_lt (tgt := 66) dX5_camp_45 (by decide) (fun h45 => absurd h45 (nI_pos (by omega))) (fun _ => ?_)
  refine PW.aload_n (i := 0) dX5_camp_48 rfl rfl ?_
  refine PW.getf FX5_camp_7 dX5_camp_49 sm_mod rfl ?_
  refine PW.iload_n (i := 3) dX5_camp_52 rfl rfl ?_
  refine PW.iald dX5_camp_53 ma_state rfl (Nat.lt_trans hm (by decide)) (mg_state hm) ?_
  refine PW.if_eq (tgt := 66) dX5_camp_54 (by decide) (fun h54 => absurd h54 k2) (fun _ => ?_)
  refine PW.aload_n (i := 0) dX5_camp_57 rfl rfl ?_
  refine PW.getf FX5_camp_47 dX5_camp_58 sm_mod rfl ?_
  refine PW.iload_n (i := 3) dX5_camp_61 rfl rfl ?_
  refine PW.iald dX5_camp_62 ma_camper rfl (Nat.lt_trans hm (by decide)) (mg_camper hm) ?_
  refine PW.if_lt (tgt := 70) dX5_camp_63 (by decide) (fun _ => ?_) (fun h63 => absurd k3 h63)
  refine PW.iconst (v := 0) dX5_camp_70 (by decide) ?_
  refine PW.callV (k := kX5_camp) (n := 2) (c5_throwing false false) dX5_camp_71 gX5_camp_X5_throwing rfl hd_X5_throwing rfl ⟨by decide, by decide⟩ ⟨rfl, rfl⟩ (Nat.le_of_ble_eq_true rfl) ⟨by decide, by decide⟩ sm_mod (by decide) rfl rfl (fun v m9 hp => ?_) (fun _ _ hx => hx.elim)
  obtain ⟨rfl, rfl⟩ := hp
  rw [show up2 N 39 7 (thr false false) = Z N from rfl]
  refine PW.if_eq (tgt := 79) dX5_camp_74 (by decide) (fun _ => ?_) (fun h74 => absurd (by decide) h74)
  refine PW.aload_n (i := 0) dX5_camp_79 rfl rfl ?_
  refine PW.iload_n (i := 1) dX5_camp_80 rfl rfl ?_
  refine PW.bipush (v := 8) dX5_camp_81 (by decide) ?_
  refine PW.callV (k := kX5_camp) (n := 2) (c5_become hl _) dX5_camp_83 gX5_camp_X5_become rfl hd_X5_become rfl ⟨by decide, by decide⟩ ⟨rfl, rfl⟩ (Nat.le_of_ble_eq_true rfl) ⟨by decide, by decide⟩ sm_mod (by decide) rfl rfl (fun v m9 hp => ?_) (fun _ _ hx => hx.elim)
  obtain ⟨rfl, rfl⟩ := hp
  refine PW.aload_n (i := 0) dX5_camp_86 rfl rfl ?_
  refine PW.getf FX5_camp_22 dX5_camp_87 sm_mod rfl ?_
  refine PW.iload_n (i := 1) dX5_camp_90 rfl rfl ?_
  refine PW.iload_n (i := 3) dX5_camp_91 rfl rfl ?_
  refine PW.iast dX5_camp_92 ma_other rfl (Nat.lt_trans hl (by decide)) (by rw [maF_len]; exact hl)  (pm_other hl) ?_
  refine PW.aload_n (i := 0) dX5_camp_93 rfl rfl ?_
  refine PW.getf FX5_camp_47 dX5_camp_94 sm_mod rfl ?_
  refine PW.iload_n (i := 3) dX5_camp_97 rfl rfl ?_
  refine PW.iload_n (i := 1) dX5_camp_98 rfl rfl ?_
  refine PW.iast dX5_camp_99 ma_camper rfl (Nat.lt_trans hm (by decide)) (by rw [maF_len]; exact hm)  (pm_camper hm) ?_
  refine PW.iload_n (i := 3) dX5_camp_100 rfl rfl ?_
  exact PW.iret dX5_camp_101 rfl ⟨rfl, by rw [g_camp, ltf, show Z N l 5 = nI m by rw [Z_row (by omega)]; exact e5, nI_clamp (by omega)]⟩ (by decide) (by decide)
set_option maxRecDepth 100000 in
set_option maxHeartbeats 4000000 in
theorem c5_park_bad {M N : dM} {R : pM} (x y : Int32) (hb : g_in x 0 23 = false ∨ g_in y 0 3 = false) (l9 : Launch) : pMet l9 yX5_park kX5_park false [.ref 44, .int x, .int y] (SM M ++ (MM N ++ R)) (fun v m9 => v = some (.int (0)) ∧ m9 = SM M ++ (MM (up2 N 39 7 1) ++ R)) (fun _ _ => False) := by
  refine pMet.of (by decide) rfl rfl rfl (by intro v hv; simp only [List.mem_cons, List.not_mem_nil, or_false] at hv; rcases hv with rfl | rfl | rfl <;> rfl) (Nat.le_of_ble_eq_true rfl) ?_
  show PW _ _ _ _ _ 0 [some (.ref 44), some (.int x), some (.int y), none, none] [] (SM M ++ (MM N ++ R)) 0 0
  cases e : g_in x 0 23
  · skip
    refine PW.iload_n (i := 1) dX5_park_0 rfl rfl ?_
    refine PW.callS (k := kX5_park) (n := 1) (c5_isLine _) dX5_park_1 gX5_park_X5_isLine rfl hs_X5_isLine rfl ⟨by decide, by decide⟩ ⟨rfl, rfl⟩ (Nat.le_of_ble_eq_true rfl) ⟨by decide, by decide⟩ rfl (fun v m9 hp => ?_) (fun _ _ hx => hx.elim)
    obtain ⟨rfl, rfl⟩ := hp
    rw [e]
    refine PW.if_eq (tgt := 16) dX5_park_4 (by decide) (fun _ => ?_) (fun h4 => absurd (by decide) h4)
    refine PW.iconst (v := 1) dX5_park_16 (by decide) ?_
    refine PW.goto (tgt := 21) dX5_park_17 (by decide) ?_
    refine PW.istore_n (i := 3) dX5_park_21 rfl (by decide) rfl ?_
    refine PW.aload_n (i := 0) dX5_park_22 rfl rfl ?_
    refine PW.iload_n (i := 3) dX5_park_23 rfl rfl ?_
    refine PW.iload_n (i := 3) dX5_park_24 rfl rfl ?_
    refine PW.if_ne (tgt := 52) dX5_park_25 (by decide) (fun _ => ?_) (fun h25 => absurd h25 (by decide))
    refine PW.iconst (v := 0) dX5_park_52 (by decide) ?_
    refine PW.callV (k := kX5_park) (n := 2) (c5_throwing true false) dX5_park_53 gX5_park_X5_throwing rfl hd_X5_throwing rfl ⟨by decide, by decide⟩ ⟨rfl, rfl⟩ (Nat.le_of_ble_eq_true rfl) ⟨by decide, by decide⟩ sm_mod (by decide) rfl rfl (fun v m9 hp => ?_) (fun _ _ hx => hx.elim)
    obtain ⟨rfl, rfl⟩ := hp
    refine PW.if_eq (tgt := 61) dX5_park_56 (by decide) (fun h56 => absurd h56 (by decide)) (fun _ => ?_)
    refine PW.iconst (v := 0) dX5_park_59 (by decide) ?_
    exact PW.iret dX5_park_60 rfl ⟨rfl, rfl⟩ (by decide) (by decide)
  · skip
    refine PW.iload_n (i := 1) dX5_park_0 rfl rfl ?_
    refine PW.callS (k := kX5_park) (n := 1) (c5_isLine _) dX5_park_1 gX5_park_X5_isLine rfl hs_X5_isLine rfl ⟨by decide, by decide⟩ ⟨rfl, rfl⟩ (Nat.le_of_ble_eq_true rfl) ⟨by decide, by decide⟩ rfl (fun v m9 hp => ?_) (fun _ _ hx => hx.elim)
    obtain ⟨rfl, rfl⟩ := hp
    rw [e]
    refine PW.if_eq (tgt := 16) dX5_park_4 (by decide) (fun h4 => absurd h4 (by decide)) (fun _ => ?_)
    refine PW.iload_n (i := 2) dX5_park_7 rfl rfl ?_
    refine PW.iconst (v := 0) dX5_park_8 (by decide) ?_
    refine PW.iconst (v := 3) dX5_park_9 (by decide) ?_
    refine PW.callS (k := kX5_park) (n := 3) (c5_in _ _ _) dX5_park_10 gX5_park_X5_in rfl hs_X5_in rfl ⟨by decide, by decide⟩ ⟨rfl, rfl⟩ (Nat.le_of_ble_eq_true rfl) ⟨by decide, by decide⟩ rfl (fun v m9 hp => ?_) (fun _ _ hx => hx.elim)
    obtain ⟨rfl, rfl⟩ := hp
    rw [(hb.resolve_left (by rw [e]; decide))]
    refine PW.if_ne (tgt := 20) dX5_park_13 (by decide) (fun h13 => absurd h13 (by decide)) (fun _ => ?_)
    refine PW.iconst (v := 1) dX5_park_16 (by decide) ?_
    refine PW.goto (tgt := 21) dX5_park_17 (by decide) ?_
    refine PW.istore_n (i := 3) dX5_park_21 rfl (by decide) rfl ?_
    refine PW.aload_n (i := 0) dX5_park_22 rfl rfl ?_
    refine PW.iload_n (i := 3) dX5_park_23 rfl rfl ?_
    refine PW.iload_n (i := 3) dX5_park_24 rfl rfl ?_
    refine PW.if_ne (tgt := 52) dX5_park_25 (by decide) (fun _ => ?_) (fun h25 => absurd h25 (by decide))
    refine PW.iconst (v := 0) dX5_park_52 (by decide) ?_
    refine PW.callV (k := kX5_park) (n := 2) (c5_throwing true false) dX5_park_53 gX5_park_X5_throwing rfl hd_X5_throwing rfl ⟨by decide, by decide⟩ ⟨rfl, rfl⟩ (Nat.le_of_ble_eq_true rfl) ⟨by decide, by decide⟩ sm_mod (by decide) rfl rfl (fun v m9 hp => ?_) (fun _ _ hx => hx.elim)
    obtain ⟨rfl, rfl⟩ := hp
    refine PW.if_eq (tgt := 61) dX5_park_56 (by decide) (fun h56 => absurd h56 (by decide)) (fun _ => ?_)
    refine PW.iconst (v := 0) dX5_park_59 (by decide) ?_
    exact PW.iret dX5_park_60 rfl ⟨rfl, rfl⟩ (by decide) (by decide)
set_option maxRecDepth 100000 in
set_option maxHeartbeats 4000000 in
theorem c5_park_two {M N : dM} {R : pM} {l p : Nat} (hl : l < 24) (hp : p < 4) (h2 : ¬ (N l 1 = 6 ∧ N 36 p < 0)) (l9 : Launch) : pMet l9 yX5_park kX5_park false [.ref 44, .int (nI l), .int (nI p)] (SM M ++ (MM N ++ R)) (fun v m9 => v = some (.int (0)) ∧ m9 = SM M ++ (MM (up2 N 39 7 2) ++ R)) (fun _ _ => False) := by
  refine pMet.of (by decide) rfl rfl rfl (by intro v hv; simp only [List.mem_cons, List.not_mem_nil, or_false] at hv; rcases hv with rfl | rfl | rfl <;> rfl) (Nat.le_of_ble_eq_true rfl) ?_
  show PW _ _ _ _ _ 0 [some (.ref 44), some (.int (nI l)), some (.int (nI p)), none, none] [] (SM M ++ (MM N ++ R)) 0 0
  refine PW.iload_n (i := 1) dX5_park_0 rfl rfl ?_
  refine PW.callS (k := kX5_park) (n := 1) (c5_isLine _) dX5_park_1 gX5_park_X5_isLine rfl hs_X5_isLine rfl ⟨by decide, by decide⟩ ⟨rfl, rfl⟩ (Nat.le_of_ble_eq_true rfl) ⟨by decide, by decide⟩ rfl (fun v m9 hp => ?_) (fun _ _ hx => hx.elim)
  obtain ⟨rfl, rfl⟩ := hp
  rw [inL hl]
  refine PW.if_eq (tgt := 16) dX5_park_4 (by decide) (fun h4 => absurd h4 (by decide)) (fun _ => ?_)
  refine PW.iload_n (i := 2) dX5_park_7 rfl rfl ?_
  refine PW.iconst (v := 0) dX5_park_8 (by decide) ?_
  refine PW.iconst (v := 3) dX5_park_9 (by decide) ?_
  refine PW.callS (k := kX5_park) (n := 3) (c5_in _ _ _) dX5_park_10 gX5_park_X5_in rfl hs_X5_in rfl ⟨by decide, by decide⟩ ⟨rfl, rfl⟩ (Nat.le_of_ble_eq_true rfl) ⟨by decide, by decide⟩ rfl (fun v m9 hp => ?_) (fun _ _ hx => hx.elim)
  obtain ⟨rfl, rfl⟩ := hp
  rw [in3 hp]
  refine PW.if_ne (tgt := 20) dX5_park_13 (by decide) (fun _ => ?_) (fun h13 => absurd h13 (by decide))
  refine PW.iconst (v := 0) dX5_park_20 (by decide) ?_
  refine PW.istore_n (i := 3) dX5_park_21 rfl (by decide) rfl ?_
  refine PW.aload_n (i := 0) dX5_park_22 rfl rfl ?_
  refine PW.iload_n (i := 3) dX5_park_23 rfl rfl ?_
  refine PW.iload_n (i := 3) dX5_park_24 rfl rfl ?_
  refine PW.if_ne (tgt := 52) dX5_park_25 (by decide) (fun h25 => absurd h25 (by decide)) (fun _ => ?_)
  refine PW.aload_n (i := 0) dX5_park_28 rfl rfl ?_
  refine PW.getf FX5_park_7 dX5_park_29 sm_mod rfl ?_
  refine PW.iload_n (i := 1) dX5_park_32 rfl rfl ?_
  refine PW.iald dX5_park_33 ma_state rfl (Nat.lt_trans hl (by decide)) (mg_state hl) ?_
  refine PW.bipush (v := 6) dX5_park_34 (by decide) ?_
  refine PW.icmp_ne (tgt := 48) dX5_park_36 (by decide) (fun h36 => ?_) (fun h36 => ?_)
  · refine PW.iconst (v := 1) dX5_park_48 (by decide) ?_
    refine PW.goto (tgt := 53) dX5_park_49 (by decide) ?_
    refine PW.callV (k := kX5_park) (n := 2) (c5_throwing false true) dX5_park_53 gX5_park_X5_throwing rfl hd_X5_throwing rfl ⟨by decide, by decide⟩ ⟨rfl, rfl⟩ (Nat.le_of_ble_eq_true rfl) ⟨by decide, by decide⟩ sm_mod (by decide) rfl rfl (fun v m9 hp => ?_) (fun _ _ hx => hx.elim)
    obtain ⟨rfl, rfl⟩ := hp
    refine PW.if_eq (tgt := 61) dX5_park_56 (by decide) (fun h56 => absurd h56 (by decide)) (fun _ => ?_)
    refine PW.iconst (v := 0) dX5_park_59 (by decide) ?_
    exact PW.iret dX5_park_60 rfl ⟨rfl, rfl⟩ (by decide) (by decide)
  · refine PW.aload_n (i := 0) dX5_park_39 rfl rfl ?_
    refine PW.getf FX5_park_50 dX5_park_40 sm_mod rfl ?_
    refine PW.iload_n (i := 2) dX5_park_43 rfl rfl ?_
    refine PW.iald dX5_park_44 ma_parked rfl (Nat.lt_trans hp (by decide)) (mg_parked hp) ?_
    refine PW.if_lt (tgt := 52) dX5_park_45 (by decide) (fun h45 => ?_) (fun h45 => ?_)
    · exact absurd ⟨h36, h45⟩ h2
    · refine PW.iconst (v := 1) dX5_park_48 (by decide) ?_
      refine PW.goto (tgt := 53) dX5_park_49 (by decide) ?_
      refine PW.callV (k := kX5_park) (n := 2) (c5_throwing false true) dX5_park_53 gX5_park_X5_throwing rfl hd_X5_throwing rfl ⟨by decide, by decide⟩ ⟨rfl, rfl⟩ (Nat.le_of_ble_eq_true rfl) ⟨by decide, by decide⟩ sm_mod (by decide) rfl rfl (fun v m9 hp => ?_) (fun _ _ hx => hx.elim)
      obtain ⟨rfl, rfl⟩ := hp
      refine PW.if_eq (tgt := 61) dX5_park_56 (by decide) (fun h56 => absurd h56 (by decide)) (fun _ => ?_)
      refine PW.iconst (v := 0) dX5_park_59 (by decide) ?_
      exact PW.iret dX5_park_60 rfl ⟨rfl, rfl⟩ (by decide) (by decide)
set_option maxRecDepth 100000 in
set_option maxHeartbeats 4000000 in
theorem c5_park_ok {M N : dM} {R : pM} {l p o t : Nat} (hl : l < 24) (hp : p < 4) (ho : o < 24) (ht : t < 8) (h6 : N l 1 = 6) (hP : N 36 p < 0) (e3 : N l 3 = nI o) (e4 : N l 4 = nI t) (hw : N 37 1 = nI (wr N) ∧ wr N < 100000) (l9 : Launch) : pMet l9 yX5_park kX5_park false [.ref 44, .int (nI l), .int (nI p)] (SM M ++ (MM N ++ R)) (fun v m9 => v = some (.int (nI o)) ∧ m9 = SM M ++ (MM (g_park (Z N) l p) ++ R)) (fun _ _ => False) := by
  refine pMet.of (by decide) rfl rfl rfl (by intro v hv; simp only [List.mem_cons, List.not_mem_nil, or_false] at hv; rcases hv with rfl | rfl | rfl <;> rfl) (Nat.le_of_ble_eq_true rfl) ?_
  show PW _ _ _ _ _ 0 [some (.ref 44), some (.int (nI l)), some (.int (nI p)), none, none] [] (SM M ++ (MM N ++ R)) 0 0
  refine PW.iload_n (i := 1) dX5_park_0 rfl rfl ?_
  refine PW.callS (k := kX5_park) (n := 1) (c5_isLine _) dX5_park_1 gX5_park_X5_isLine rfl hs_X5_isLine rfl ⟨by decide, by decide⟩ ⟨rfl, rfl⟩ (Nat.le_of_ble_eq_true rfl) ⟨by decide, by decide⟩ rfl (fun v m9 hp => ?_) (fun _ _ hx => hx.elim)
  obtain ⟨rfl, rfl⟩ := hp
  rw [inL hl]
  refine PW.if_eq (tgt := 16) dX5_park_4 (by decide) (fun h4 => absurd h4 (by decide)) (fun _ => ?_)
  refine PW.iload_n (i := 2) dX5_park_7 rfl rfl ?_
  refine PW.iconst (v := 0) dX5_park_8 (by decide) ?_
  refine PW.iconst (v := 3) dX5_park_9 (by decide) ?_
  refine PW.callS (k := kX5_park) (n := 3) (c5_in _ _ _) dX5_park_10 gX5_park_X5_in rfl hs_X5_in rfl ⟨by decide, by decide⟩ ⟨rfl, rfl⟩ (Nat.le_of_ble_eq_true rfl) ⟨by decide, by decide⟩ rfl (fun v m9 hp => ?_) (fun _ _ hx => hx.elim)
  obtain ⟨rfl, rfl⟩ := hp
  rw [in3 hp]
  refine PW.if_ne (tgt := 20) dX5_park_13 (by decide) (fun _ => ?_) (fun h13 => absurd h13 (by decide))
  refine PW.iconst (v := 0) dX5_park_20 (by decide) ?_
  refine PW.istore_n (i := 3) dX5_park_21 rfl (by decide) rfl ?_
  refine PW.aload_n (i := 0) dX5_park_22 rfl rfl ?_
  refine PW.iload_n (i := 3) dX5_park_23 rfl rfl ?_
  refine PW.iload_n (i := 3) dX5_park_24 rfl rfl ?_
  refine PW.if_ne (tgt := 52) dX5_park_25 (by decide) (fun h25 => absurd h25 (by decide)) (fun _ => ?_)
  refine PW.aload_n (i := 0) dX5_park_28 rfl rfl ?_
  refine PW.getf FX5_park_7 dX5_park_29 sm_mod rfl ?_
  refine PW.iload_n (i := 1) dX5_park_32 rfl rfl ?_
  refine PW.iald dX5_park_33 ma_state rfl (Nat.lt_trans hl (by decide)) (mg_state hl) ?_
  refine PW.bipush (v := 6) dX5_park_34 (by decide) ?_
  refine PW.icmp_ne (tgt := 48) dX5_park_36 (by decide) (fun h36 => absurd h36 (fun z => z h6)) (fun _ => ?_)
  refine PW.aload_n (i := 0) dX5_park_39 rfl rfl ?_
  refine PW.getf FX5_park_50 dX5_park_40 sm_mod rfl ?_
  refine PW.iload_n (i := 2) dX5_park_43 rfl rfl ?_
  refine PW.iald dX5_park_44 ma_parked rfl (Nat.lt_trans hp (by decide)) (mg_parked hp) ?_
  refine PW.if_lt (tgt := 52) dX5_park_45 (by decide) (fun _ => ?_) (fun h45 => absurd hP h45)
  refine PW.iconst (v := 0) dX5_park_52 (by decide) ?_
  refine PW.callV (k := kX5_park) (n := 2) (c5_throwing false false) dX5_park_53 gX5_park_X5_throwing rfl hd_X5_throwing rfl ⟨by decide, by decide⟩ ⟨rfl, rfl⟩ (Nat.le_of_ble_eq_true rfl) ⟨by decide, by decide⟩ sm_mod (by decide) rfl rfl (fun v m9 hp => ?_) (fun _ _ hx => hx.elim)
  obtain ⟨rfl, rfl⟩ := hp
  rw [show up2 N 39 7 (thr false false) = Z N from rfl]
  refine PW.if_eq (tgt := 61) dX5_park_56 (by decide) (fun _ => ?_) (fun h56 => absurd (by decide) h56)
  have z3 : Z N l 3 = nI o := by rw [Z_row (by omega)]; exact e3
  have z4 : Z N l 4 = nI t := by rw [Z_row (by omega)]; exact e4
  refine PW.aload_n (i := 0) dX5_park_61 rfl rfl ?_
  refine PW.getf FX5_park_22 dX5_park_62 sm_mod rfl ?_
  refine PW.iload_n (i := 1) dX5_park_65 rfl rfl ?_
  refine PW.iald dX5_park_66 ma_other rfl (Nat.lt_trans hl (by decide)) (mg_other hl) ?_
  rw [z3]
  refine PW.istore dX5_park_67 (by decide) rfl ?_
  refine PW.aload_n (i := 0) dX5_park_69 rfl rfl ?_
  refine PW.iload_n (i := 1) dX5_park_70 rfl rfl ?_
  refine PW.callV (k := kX5_park) (n := 1) (c5_finish hl ho ht z3 z4 (show Z N 37 1 = nI (wr N) by rw [Z_row (by decide)]; exact hw.1) hw.2) dX5_park_71 gX5_park_X5_finish rfl hd_X5_finish rfl ⟨by decide, by decide⟩ ⟨rfl, rfl⟩ (Nat.le_of_ble_eq_true rfl) ⟨by decide, by decide⟩ sm_mod (by decide) rfl rfl (fun v m9 hp => ?_) (fun _ _ hx => hx.elim)
  obtain ⟨rfl, rfl⟩ := hp
  refine PW.aload_n (i := 0) dX5_park_74 rfl rfl ?_
  refine PW.iload dX5_park_75 rfl ?_
  refine PW.bipush (v := 7) dX5_park_77 (by decide) ?_
  refine PW.callV (k := kX5_park) (n := 2) (c5_become ho _) dX5_park_79 gX5_park_X5_become rfl hd_X5_become rfl ⟨by decide, by decide⟩ ⟨rfl, rfl⟩ (Nat.le_of_ble_eq_true rfl) ⟨by decide, by decide⟩ sm_mod (by decide) rfl rfl (fun v m9 hp => ?_) (fun _ _ hx => hx.elim)
  obtain ⟨rfl, rfl⟩ := hp
  refine PW.aload_n (i := 0) dX5_park_82 rfl rfl ?_
  refine PW.getf FX5_park_22 dX5_park_83 sm_mod rfl ?_
  refine PW.iload dX5_park_86 rfl ?_
  refine PW.iload_n (i := 2) dX5_park_88 rfl rfl ?_
  refine PW.iast dX5_park_89 ma_other rfl (Nat.lt_trans ho (by decide)) (by rw [maF_len]; exact ho)  (pm_other ho) ?_
  refine PW.aload_n (i := 0) dX5_park_90 rfl rfl ?_
  refine PW.getf FX5_park_50 dX5_park_91 sm_mod rfl ?_
  refine PW.iload_n (i := 2) dX5_park_94 rfl rfl ?_
  refine PW.iload dX5_park_95 rfl ?_
  refine PW.iast dX5_park_97 ma_parked rfl (Nat.lt_trans hp (by decide)) (by rw [maF_len]; exact hp)  (pm_parked hp) ?_
  refine PW.aload_n (i := 0) dX5_park_98 rfl rfl ?_
  refine PW.iload_n (i := 1) dX5_park_99 rfl rfl ?_
  refine PW.callV (k := kX5_park) (n := 1) (c5_busy hl) dX5_park_100 gX5_park_X5_busy rfl hd_X5_busy rfl ⟨by decide, by decide⟩ ⟨rfl, rfl⟩ (Nat.le_of_ble_eq_true rfl) ⟨by decide, by decide⟩ sm_mod (by decide) rfl rfl (fun v m9 hp => ?_) (fun _ _ hx => hx.elim)
  obtain ⟨rfl, rfl⟩ := hp
  refine PW.iload dX5_park_103 rfl ?_
  exact PW.iret dX5_park_105 rfl ⟨rfl, by rw [g_park, oth, z3, nI_clamp (by omega)]⟩ (by decide) (by decide)
set_option maxRecDepth 100000 in
set_option maxHeartbeats 4000000 in
theorem c5_transfer_bad {M N : dM} {R : pM} (x y : Int32) (hb : g_in x 0 23 = false ∨ g_in y 10 99 = false) (l9 : Launch) : pMet l9 yX5_transfer kX5_transfer false [.ref 44, .int x, .int y] (SM M ++ (MM N ++ R)) (fun v m9 => v = some (.int (0)) ∧ m9 = SM M ++ (MM (up2 N 39 7 1) ++ R)) (fun _ _ => False) := by
  refine pMet.of (by decide) rfl rfl rfl (by intro v hv; simp only [List.mem_cons, List.not_mem_nil, or_false] at hv; rcases hv with rfl | rfl | rfl <;> rfl) (Nat.le_of_ble_eq_true rfl) ?_
  show PW _ _ _ _ _ 0 [some (.ref 44), some (.int x), some (.int y), none, none] [] (SM M ++ (MM N ++ R)) 0 0
  cases e : g_in x 0 23
  · skip
    refine PW.iload_n (i := 1) dX5_transfer_0 rfl rfl ?_
    refine PW.callS (k := kX5_transfer) (n := 1) (c5_isLine _) dX5_transfer_1 gX5_transfer_X5_isLine rfl hs_X5_isLine rfl ⟨by decide, by decide⟩ ⟨rfl, rfl⟩ (Nat.le_of_ble_eq_true rfl) ⟨by decide, by decide⟩ rfl (fun v m9 hp => ?_) (fun _ _ hx => hx.elim)
    obtain ⟨rfl, rfl⟩ := hp
    rw [e]
    refine PW.if_eq (tgt := 18) dX5_transfer_4 (by decide) (fun _ => ?_) (fun h4 => absurd (by decide) h4)
    refine PW.iconst (v := 1) dX5_transfer_18 (by decide) ?_
    refine PW.goto (tgt := 23) dX5_transfer_19 (by decide) ?_
    refine PW.istore_n (i := 3) dX5_transfer_23 rfl (by decide) rfl ?_
    refine PW.aload_n (i := 0) dX5_transfer_24 rfl rfl ?_
    refine PW.iload_n (i := 3) dX5_transfer_25 rfl rfl ?_
    refine PW.iload_n (i := 3) dX5_transfer_26 rfl rfl ?_
    refine PW.if_ne (tgt := 45) dX5_transfer_27 (by decide) (fun _ => ?_) (fun h27 => absurd h27 (by decide))
    refine PW.iconst (v := 0) dX5_transfer_45 (by decide) ?_
    refine PW.callV (k := kX5_transfer) (n := 2) (c5_throwing true false) dX5_transfer_46 gX5_transfer_X5_throwing rfl hd_X5_throwing rfl ⟨by decide, by decide⟩ ⟨rfl, rfl⟩ (Nat.le_of_ble_eq_true rfl) ⟨by decide, by decide⟩ sm_mod (by decide) rfl rfl (fun v m9 hp => ?_) (fun _ _ hx => hx.elim)
    obtain ⟨rfl, rfl⟩ := hp
    refine PW.if_eq (tgt := 54) dX5_transfer_49 (by decide) (fun h49 => absurd h49 (by decide)) (fun _ => ?_)
    refine PW.iconst (v := 0) dX5_transfer_52 (by decide) ?_
    exact PW.iret dX5_transfer_53 rfl ⟨rfl, rfl⟩ (by decide) (by decide)
  · skip
    refine PW.iload_n (i := 1) dX5_transfer_0 rfl rfl ?_
    refine PW.callS (k := kX5_transfer) (n := 1) (c5_isLine _) dX5_transfer_1 gX5_transfer_X5_isLine rfl hs_X5_isLine rfl ⟨by decide, by decide⟩ ⟨rfl, rfl⟩ (Nat.le_of_ble_eq_true rfl) ⟨by decide, by decide⟩ rfl (fun v m9 hp => ?_) (fun _ _ hx => hx.elim)
    obtain ⟨rfl, rfl⟩ := hp
    rw [e]
    refine PW.if_eq (tgt := 18) dX5_transfer_4 (by decide) (fun h4 => absurd h4 (by decide)) (fun _ => ?_)
    refine PW.iload_n (i := 2) dX5_transfer_7 rfl rfl ?_
    refine PW.bipush (v := 10) dX5_transfer_8 (by decide) ?_
    refine PW.bipush (v := 99) dX5_transfer_10 (by decide) ?_
    refine PW.callS (k := kX5_transfer) (n := 3) (c5_in _ _ _) dX5_transfer_12 gX5_transfer_X5_in rfl hs_X5_in rfl ⟨by decide, by decide⟩ ⟨rfl, rfl⟩ (Nat.le_of_ble_eq_true rfl) ⟨by decide, by decide⟩ rfl (fun v m9 hp => ?_) (fun _ _ hx => hx.elim)
    obtain ⟨rfl, rfl⟩ := hp
    rw [(hb.resolve_left (by rw [e]; decide))]
    refine PW.if_ne (tgt := 22) dX5_transfer_15 (by decide) (fun h15 => absurd h15 (by decide)) (fun _ => ?_)
    refine PW.iconst (v := 1) dX5_transfer_18 (by decide) ?_
    refine PW.goto (tgt := 23) dX5_transfer_19 (by decide) ?_
    refine PW.istore_n (i := 3) dX5_transfer_23 rfl (by decide) rfl ?_
    refine PW.aload_n (i := 0) dX5_transfer_24 rfl rfl ?_
    refine PW.iload_n (i := 3) dX5_transfer_25 rfl rfl ?_
    refine PW.iload_n (i := 3) dX5_transfer_26 rfl rfl ?_
    refine PW.if_ne (tgt := 45) dX5_transfer_27 (by decide) (fun _ => ?_) (fun h27 => absurd h27 (by decide))
    refine PW.iconst (v := 0) dX5_transfer_45 (by decide) ?_
    refine PW.callV (k := kX5_transfer) (n := 2) (c5_throwing true false) dX5_transfer_46 gX5_transfer_X5_throwing rfl hd_X5_throwing rfl ⟨by decide, by decide⟩ ⟨rfl, rfl⟩ (Nat.le_of_ble_eq_true rfl) ⟨by decide, by decide⟩ sm_mod (by decide) rfl rfl (fun v m9 hp => ?_) (fun _ _ hx => hx.elim)
    obtain ⟨rfl, rfl⟩ := hp
    refine PW.if_eq (tgt := 54) dX5_transfer_49 (by decide) (fun h49 => absurd h49 (by decide)) (fun _ => ?_)
    refine PW.iconst (v := 0) dX5_transfer_52 (by decide) ?_
    exact PW.iret dX5_transfer_53 rfl ⟨rfl, rfl⟩ (by decide) (by decide)
set_option maxRecDepth 100000 in
set_option maxHeartbeats 4000000 in
theorem c5_transfer_two {M N : dM} {R : pM} {l : Nat} (hl : l < 24) (y : Int32) (hy : g_in y 10 99 = true) (h6 : ¬ N l 1 = 6) (l9 : Launch) : pMet l9 yX5_transfer kX5_transfer false [.ref 44, .int (nI l), .int y] (SM M ++ (MM N ++ R)) (fun v m9 => v = some (.int (0)) ∧ m9 = SM M ++ (MM (up2 N 39 7 2) ++ R)) (fun _ _ => False) := by
  refine pMet.of (by decide) rfl rfl rfl (by intro v hv; simp only [List.mem_cons, List.not_mem_nil, or_false] at hv; rcases hv with rfl | rfl | rfl <;> rfl) (Nat.le_of_ble_eq_true rfl) ?_
  show PW _ _ _ _ _ 0 [some (.ref 44), some (.int (nI l)), some (.int y), none, none] [] (SM M ++ (MM N ++ R)) 0 0
  refine PW.iload_n (i := 1) dX5_transfer_0 rfl rfl ?_
  refine PW.callS (k := kX5_transfer) (n := 1) (c5_isLine _) dX5_transfer_1 gX5_transfer_X5_isLine rfl hs_X5_isLine rfl ⟨by decide, by decide⟩ ⟨rfl, rfl⟩ (Nat.le_of_ble_eq_true rfl) ⟨by decide, by decide⟩ rfl (fun v m9 hp => ?_) (fun _ _ hx => hx.elim)
  obtain ⟨rfl, rfl⟩ := hp
  rw [inL hl]
  refine PW.if_eq (tgt := 18) dX5_transfer_4 (by decide) (fun h4 => absurd h4 (by decide)) (fun _ => ?_)
  refine PW.iload_n (i := 2) dX5_transfer_7 rfl rfl ?_
  refine PW.bipush (v := 10) dX5_transfer_8 (by decide) ?_
  refine PW.bipush (v := 99) dX5_transfer_10 (by decide) ?_
  refine PW.callS (k := kX5_transfer) (n := 3) (c5_in _ _ _) dX5_transfer_12 gX5_transfer_X5_in rfl hs_X5_in rfl ⟨by decide, by decide⟩ ⟨rfl, rfl⟩ (Nat.le_of_ble_eq_true rfl) ⟨by decide, by decide⟩ rfl (fun v m9 hp => ?_) (fun _ _ hx => hx.elim)
  obtain ⟨rfl, rfl⟩ := hp
  rw [hy]
  refine PW.if_ne (tgt := 22) dX5_transfer_15 (by decide) (fun _ => ?_) (fun h15 => absurd h15 (by decide))
  refine PW.iconst (v := 0) dX5_transfer_22 (by decide) ?_
  refine PW.istore_n (i := 3) dX5_transfer_23 rfl (by decide) rfl ?_
  refine PW.aload_n (i := 0) dX5_transfer_24 rfl rfl ?_
  refine PW.iload_n (i := 3) dX5_transfer_25 rfl rfl ?_
  refine PW.iload_n (i := 3) dX5_transfer_26 rfl rfl ?_
  refine PW.if_ne (tgt := 45) dX5_transfer_27 (by decide) (fun h27 => absurd h27 (by decide)) (fun _ => ?_)
  refine PW.aload_n (i := 0) dX5_transfer_30 rfl rfl ?_
  refine PW.getf FX5_transfer_7 dX5_transfer_31 sm_mod rfl ?_
  refine PW.iload_n (i := 1) dX5_transfer_34 rfl rfl ?_
  refine PW.iald dX5_transfer_35 ma_state rfl (Nat.lt_trans hl (by decide)) (mg_state hl) ?_
  refine PW.bipush (v := 6) dX5_transfer_36 (by decide) ?_
  refine PW.icmp_eq (tgt := 45) dX5_transfer_38 (by decide) (fun h38 => absurd h38 h6) (fun _ => ?_)
  refine PW.iconst (v := 1) dX5_transfer_41 (by decide) ?_
  refine PW.goto (tgt := 46) dX5_transfer_42 (by decide) ?_
  refine PW.callV (k := kX5_transfer) (n := 2) (c5_throwing false true) dX5_transfer_46 gX5_transfer_X5_throwing rfl hd_X5_throwing rfl ⟨by decide, by decide⟩ ⟨rfl, rfl⟩ (Nat.le_of_ble_eq_true rfl) ⟨by decide, by decide⟩ sm_mod (by decide) rfl rfl (fun v m9 hp => ?_) (fun _ _ hx => hx.elim)
  obtain ⟨rfl, rfl⟩ := hp
  refine PW.if_eq (tgt := 54) dX5_transfer_49 (by decide) (fun h49 => absurd h49 (by decide)) (fun _ => ?_)
  refine PW.iconst (v := 0) dX5_transfer_52 (by decide) ?_
  exact PW.iret dX5_transfer_53 rfl ⟨rfl, rfl⟩ (by decide) (by decide)
set_option maxRecDepth 100000 in
set_option maxHeartbeats 4000000 in
theorem c5_transfer_ok {M N : dM} {R : pM} {Q : dM} (hQ : Rx 24 Q N) (hI : Iv 24 Q) (hS : Sf Q) (ht9 : Q 39 5 < 2147483647) {l o t : Nat} (hl : l < 24) (ho : o < 24) (ht : t < 8) (h6 : N l 1 = 6) (e3 : N l 3 = nI o) (e4 : N l 4 = nI t) (hw : N 37 1 = nI (wr N) ∧ wr N < 100000) (y : Int32) (hy : g_in y 10 99 = true) (l9 : Launch) : pMet l9 yX5_transfer kX5_transfer false [.ref 44, .int (nI l), .int y] (SM M ++ (MM N ++ R)) (fun v m9 => v = some (.int (g_trans (Z N) l y o 1)) ∧ m9 = SM M ++ (MM (g_trans (Z N) l y) ++ R)) (fun _ _ => False) := by
  refine pMet.of (by decide) rfl rfl rfl (by intro v hv; simp only [List.mem_cons, List.not_mem_nil, or_false] at hv; rcases hv with rfl | rfl | rfl <;> rfl) (Nat.le_of_ble_eq_true rfl) ?_
  show PW _ _ _ _ _ 0 [some (.ref 44), some (.int (nI l)), some (.int y), none, none] [] (SM M ++ (MM N ++ R)) 0 0
  refine PW.iload_n (i := 1) dX5_transfer_0 rfl rfl ?_
  refine PW.callS (k := kX5_transfer) (n := 1) (c5_isLine _) dX5_transfer_1 gX5_transfer_X5_isLine rfl hs_X5_isLine rfl ⟨by decide, by decide⟩ ⟨rfl, rfl⟩ (Nat.le_of_ble_eq_true rfl) ⟨by decide, by decide⟩ rfl (fun v m9 hp => ?_) (fun _ _ hx => hx.elim)
  obtain ⟨rfl, rfl⟩ := hp
  rw [inL hl]
  refine PW.if_eq (tgt := 18) dX5_transfer_4 (by decide) (fun h4 => absurd h4 (by decide)) (fun _ => ?_)
  refine PW.iload_n (i := 2) dX5_transfer_7 rfl rfl ?_
  refine PW.bipush (v := 10) dX5_transfer_8 (by decide) ?_
  refine PW.bipush (v := 99) dX5_transfer_10 (by decide) ?_
  refine PW.callS (k := kX5_transfer) (n := 3) (c5_in _ _ _) dX5_transfer_12 gX5_transfer_X5_in rfl hs_X5_in rfl ⟨by decide, by decide⟩ ⟨rfl, rfl⟩ (Nat.le_of_ble_eq_true rfl) ⟨by decide, by decide⟩ rfl (fun v m9 hp => ?_) (fun _ _ hx => hx.elim)
  obtain ⟨rfl, rfl⟩ := hp
  rw [hy]
  refine PW.if_ne (tgt := 22) dX5_transfer_15 (by decide) (fun _ => ?_) (fun h15 => absurd h15 (by decide))
  refine PW.iconst (v := 0) dX5_transfer_22 (by decide) ?_
  refine PW.istore_n (i := 3) dX5_transfer_23 rfl (by decide) rfl ?_
  refine PW.aload_n (i := 0) dX5_transfer_24 rfl rfl ?_
  refine PW.iload_n (i := 3) dX5_transfer_25 rfl rfl ?_
  refine PW.iload_n (i := 3) dX5_transfer_26 rfl rfl ?_
  refine PW.if_ne (tgt := 45) dX5_transfer_27 (by decide) (fun h27 => absurd h27 (by decide)) (fun _ => ?_)
  refine PW.aload_n (i := 0) dX5_transfer_30 rfl rfl ?_
  refine PW.getf FX5_transfer_7 dX5_transfer_31 sm_mod rfl ?_
  refine PW.iload_n (i := 1) dX5_transfer_34 rfl rfl ?_
  refine PW.iald dX5_transfer_35 ma_state rfl (Nat.lt_trans hl (by decide)) (mg_state hl) ?_
  refine PW.bipush (v := 6) dX5_transfer_36 (by decide) ?_
  refine PW.icmp_eq (tgt := 45) dX5_transfer_38 (by decide) (fun _ => ?_) (fun h38 => absurd h6 h38)
  refine PW.iconst (v := 0) dX5_transfer_45 (by decide) ?_
  refine PW.callV (k := kX5_transfer) (n := 2) (c5_throwing false false) dX5_transfer_46 gX5_transfer_X5_throwing rfl hd_X5_throwing rfl ⟨by decide, by decide⟩ ⟨rfl, rfl⟩ (Nat.le_of_ble_eq_true rfl) ⟨by decide, by decide⟩ sm_mod (by decide) rfl rfl (fun v m9 hp => ?_) (fun _ _ hx => hx.elim)
  obtain ⟨rfl, rfl⟩ := hp
  rw [show up2 N 39 7 (thr false false) = Z N from rfl]
  refine PW.if_eq (tgt := 54) dX5_transfer_49 (by decide) (fun _ => ?_) (fun h49 => absurd (by decide) h49)
  have z3 : Z N l 3 = nI o := by rw [Z_row (by omega)]; exact e3
  have z4 : Z N l 4 = nI t := by rw [Z_row (by omega)]; exact e4
  have zQ := hQ.thrZ
  have q6 : Q l 1 = 6 := by rw [(hQ.1 l hl (by omega)).1.1]; exact h6
  have qo : oth Q l = o := by rw [oth, (hQ.1 l hl (by omega)).1.2.1, e3, nI_clamp (by omega)]
  have r := end_one zQ hI hS hl q6 (a := l) (b := oth Q l) (Or.inl ⟨rfl, rfl⟩)
  have hI2 := Iv.end zQ hI hS hl q6
  have so : f_end Q l (oth Q l) 1 = 5 := by rw [(end_rows zQ hI hS hl q6 rfl).2.1, f_enter_s]; rfl
  have hS2 := hS.end hl q6
  have e5 : f_end Q l 39 5 = Q 39 5 := t_end hS hl q6
  rw [qo] at r so
  have ce := call_eq (x := y) r hI2 hS2 (by rw [e5]; exact ht9) (Or.inr so) ho
  refine PW.aload_n (i := 0) dX5_transfer_54 rfl rfl ?_
  refine PW.getf FX5_transfer_22 dX5_transfer_55 sm_mod rfl ?_
  refine PW.iload_n (i := 1) dX5_transfer_58 rfl rfl ?_
  refine PW.iald dX5_transfer_59 ma_other rfl (Nat.lt_trans hl (by decide)) (mg_other hl) ?_
  rw [z3]
  refine PW.istore dX5_transfer_60 (by decide) rfl ?_
  refine PW.aload_n (i := 0) dX5_transfer_62 rfl rfl ?_
  refine PW.iload_n (i := 1) dX5_transfer_63 rfl rfl ?_
  refine PW.callV (k := kX5_transfer) (n := 1) (c5_finish hl ho ht z3 z4 (show Z N 37 1 = nI (wr N) by rw [Z_row (by decide)]; exact hw.1) hw.2) dX5_transfer_64 gX5_transfer_X5_finish rfl hd_X5_finish rfl ⟨by decide, by decide⟩ ⟨rfl, rfl⟩ (Nat.le_of_ble_eq_true rfl) ⟨by decide, by decide⟩ sm_mod (by decide) rfl rfl (fun v m9 hp => ?_) (fun _ _ hx => hx.elim)
  obtain ⟨rfl, rfl⟩ := hp
  refine PW.aload_n (i := 0) dX5_transfer_67 rfl rfl ?_
  refine PW.iload_n (i := 1) dX5_transfer_68 rfl rfl ?_
  refine PW.callV (k := kX5_transfer) (n := 1) (c5_busy hl) dX5_transfer_69 gX5_transfer_X5_busy rfl hd_X5_busy rfl ⟨by decide, by decide⟩ ⟨rfl, rfl⟩ (Nat.le_of_ble_eq_true rfl) ⟨by decide, by decide⟩ sm_mod (by decide) rfl rfl (fun v m9 hp => ?_) (fun _ _ hx => hx.elim)
  obtain ⟨rfl, rfl⟩ := hp
  refine PW.aload_n (i := 0) dX5_transfer_72 rfl rfl ?_
  refine PW.iload dX5_transfer_73 rfl ?_
  refine PW.iload_n (i := 2) dX5_transfer_75 rfl rfl ?_
  refine PW.callV (k := kX5_transfer) (n := 2) (c5_call r hS2 ho _) dX5_transfer_76 gX5_transfer_X5_call rfl hd_X5_call rfl ⟨by decide, by decide⟩ ⟨rfl, rfl⟩ (Nat.le_of_ble_eq_true rfl) ⟨by decide, by decide⟩ sm_mod (by decide) rfl rfl (fun v m9 hp => ?_) (fun _ _ hx => hx.elim)
  obtain ⟨rfl, rfl⟩ := hp
  refine PW.aload_n (i := 0) dX5_transfer_79 rfl rfl ?_
  refine PW.callV (k := kX5_transfer) (n := 0) (c5_settle ⟨_, ce.1, ce.2, hS2.call ho⟩) dX5_transfer_80 gX5_transfer_X5_settle rfl hd_X5_settle rfl ⟨by decide, by decide⟩ ⟨rfl, rfl⟩ (Nat.le_of_ble_eq_true rfl) ⟨by decide, by decide⟩ sm_mod (by decide) rfl rfl (fun v m9 hp => ?_) (fun _ _ hx => hx.elim)
  obtain ⟨rfl, rfl⟩ := hp
  refine PW.aload_n (i := 0) dX5_transfer_83 rfl rfl ?_
  refine PW.getf FX5_transfer_7 dX5_transfer_84 sm_mod rfl ?_
  refine PW.iload dX5_transfer_87 rfl ?_
  refine PW.iald dX5_transfer_89 ma_state rfl (Nat.lt_trans ho (by decide)) (mg_state ho) ?_
  exact PW.iret dX5_transfer_90 rfl ⟨by rw [g_trans, oth, z3, nI_clamp (by omega)], by rw [g_trans, oth, z3, nI_clamp (by omega)]⟩ (by decide) (by decide)
