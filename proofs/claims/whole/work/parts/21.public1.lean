theorem t_enter {M : dM} {l : Nat} {s n : Int32} (hl : l < 24) : f_enter M l s n 39 5 = M 39 5 := f_enter_r (by omega)
theorem t_ring {M : dM} {c m : Nat} (hc : c < 24) (hm : m < 24) : f_ring M c m 39 5 = M 39 5 := f_ring_r (by omega) (by omega) (by omega)
theorem t_block {M : dM} {c : Nat} (hc : c < 24) : f_block M c 39 5 = M 39 5 := by
  unfold f_block
  rw [up2_j (by decide), t_enter hc]
theorem t_callLine {M : dM} {c m : Nat} (hc : c < 24) (hm : m < 24) : f_callLine M c m 39 5 = M 39 5 := by
  unfold f_callLine
  split
  · exact t_enter hc
  · split
    · rw [up2_r (by omega), t_enter hc]
    · split
      · rw [t_block hc, t_ring hc hm]
      · rw [t_enter hc, t_ring hc hm]
theorem t_cf : ∀ (n l : Nat) (M : dM), l + n = 24 → Sf M → cfL n l M 39 5 = M 39 5
  | 0, _, _, _, _ => rfl
  | n + 1, l, M, e, h => by
    rw [cfL]
    split
    · next hc =>
      obtain ⟨c, hc9, ec⟩ := ((h.1 l (by omega)).2.2.2.1).resolve_left hc.1
      rw [ec, nI_clamp (by omega), t_cf n (l + 1) _ (by omega) ((h.camp0 (by omega) (Or.inl rfl)).callLine hc9 (by omega)), t_callLine hc9 (by omega), up2_r (by omega)]
    · exact t_cf n (l + 1) _ (by omega) h
theorem t_camps {M : dM} (h : Sf M) : f_camps M 39 5 = M 39 5 := t_cf 24 0 M rfl h
theorem t_sp {c : Nat} (hc : c < 24) : ∀ (n l : Nat) (M : dM), l + n = 24 → spL c n l M 39 5 = M 39 5
  | 0, _, _, _ => rfl
  | n + 1, l, M, e => by
    rw [spL]
    split
    · rw [t_sp hc n (l + 1) _ (by omega), f_hang, t_enter (by omega), f_mark_r (by omega) (by omega)]
    · exact t_sp hc n (l + 1) _ (by omega)
theorem t_end {M : dM} {l : Nat} (h : Sf M) (hl : l < 24) (h6 : M l 1 = 6) : f_end M l 39 5 = M 39 5 := by
  obtain ⟨o, t, ho, ht, e3, e4⟩ := (h.1 l hl).1 (Or.inr h6)
  have eo : oth M l = o := by rw [oth, e3, nI_clamp (by omega)]
  have hk : payer M l < 24 := by
    unfold payer
    rw [eo]
    split <;> assumption
  unfold f_end f_end3 f_end2 f_end1
  rw [eo, t_enter ho, t_enter hl, f_mark_r (by omega) (by omega), f_write_r (by omega), up2_r (by omega)]
theorem t_leave {M : dM} {l : Nat} (h : Sf M) (hl : l < 24) : f_leave M l 39 5 = M 39 5 := by
  unfold f_leave
  split
  · next h6 => exact t_end h hl h6
  · split
    · exact t_sp hl 24 0 M rfl
    · split
      · exact up2_r (by omega)
      · split
        · next h8 =>
          obtain ⟨o, ho, e3⟩ := (h.1 l hl).2.2.1 h8
          rw [oth, e3, nI_clamp (by omega), up2_r (by omega)]
        · rfl
theorem t_runOut {M : dM} {l : Nat} (h : Sf M) (hl : l < 24) : f_runOut M l 39 5 = M 39 5 := by
  unfold f_runOut
  split
  · exact t_enter hl
  · rw [t_enter hl, t_leave h hl]
theorem la_keep : ∀ (n l : Nat) (M : dM), l + n = 24 → Sf M → Sf (laL n l M) ∧ laL n l M 39 5 = M 39 5
  | 0, _, _, _, h => ⟨h, rfl⟩
  | n + 1, l, M, e, h => by
    rw [laL]
    split
    · exact la_keep n (l + 1) M (by omega) h
    · have h2 := h.runOut (l := l) (by omega)
      obtain ⟨a, b⟩ := la_keep n (l + 1) (f_camps (f_runOut M l)) (by omega) h2.camps
      exact ⟨a, by rw [b, t_camps h2, t_runOut h (by omega)]⟩
set_option maxRecDepth 100000 in
set_option maxHeartbeats 4000000 in
theorem la_loop {R : pM} {n0 : Nat} {fin : dM} : ∀ (n s : Nat) (M : dM), s + n = 24 → Sf M → M 39 5 < 2147483647 → laL n s M = fin → PW kX4_lookAtTimers false n0 (fun v m9 => v = none ∧ m9 = SM fin ++ R) (fun _ _ => False) 2 [some (.ref 0), some (.int (nI s))] [] (SM M ++ R) 0 0 := by
  intro n
  induction n with
  | zero =>
    intro s M hs hS ht hr
    refine PW.iload_n (i := 1) dX4_lookAtTimers_2 rfl rfl ?_
    refine PW.bipush (v := 24) dX4_lookAtTimers_3 (by decide) ?_
    refine PW.icmp_ge (tgt := 44) dX4_lookAtTimers_5 (by decide) (fun _ => ?_) (fun h5 => absurd (nI_le (a := 24) (b := s) (by omega) (by omega)) h5)
    exact PW.vret dX4_lookAtTimers_44 rfl ⟨rfl, by rw [← hr]; rfl⟩ (by decide) (by decide)
  | succ n ih =>
    intro s M hs hS ht hr
    refine PW.iload_n (i := 1) dX4_lookAtTimers_2 rfl rfl ?_
    refine PW.bipush (v := 24) dX4_lookAtTimers_3 (by decide) ?_
    refine PW.icmp_ge (tgt := 44) dX4_lookAtTimers_5 (by decide) (fun h5 => absurd h5 (nI_ge (a := s) (b := 24) (by omega) (by decide))) (fun _ => ?_)
    have hs9 : s < 24 := by omega
    refine PW.aload_n (i := 0) dX4_lookAtTimers_8 rfl rfl ?_
    refine PW.getf FX4_lookAtTimers_11 dX4_lookAtTimers_9 sm_desk rfl ?_
    refine PW.iload_n (i := 1) dX4_lookAtTimers_12 rfl rfl ?_
    refine PW.aald dX4_lookAtTimers_13 sm_lines (by decide) (fun _ => rfl) rfl rfl (Nat.lt_trans hs9 (by decide)) (lnA_get hs9) ?_
    refine PW.callV (k := kX4_lookAtTimers) (n := 0) (c_due hs9) dX4_lookAtTimers_14 gX4_lookAtTimers_X2_due rfl hd_X2_due rfl ⟨by decide, by decide⟩ ⟨rfl, rfl⟩ (Nat.le_of_ble_eq_true rfl) ⟨by decide, by decide⟩ (sm_line hs9) (by decide) rfl rfl (fun v m9 hp => ?_) (fun _ _ hx => hx.elim)
    obtain ⟨rfl, rfl⟩ := hp
    refine PW.aload_n (i := 0) dX4_lookAtTimers_17 rfl rfl ?_
    refine PW.getf FX4_lookAtTimers_75 dX4_lookAtTimers_18 sm_desk rfl ?_
    refine PW.icmp_gt (tgt := 38) dX4_lookAtTimers_21 (by decide) (fun h21 => ?_) (fun h21 => ?_)
    · refine PW.iinc (v := nI (s + 1)) dX4_lookAtTimers_38 rfl (nI_1 s) (by decide) rfl ?_
      refine PW.goto (tgt := 2) dX4_lookAtTimers_41 (by decide) ?_
      exact ih (s + 1) _ (by omega) hS ht (by rw [← hr, laL, if_pos h21])
    · have h6 : ¬ M s 1 = 6 := due6 ht h21
      have hS2 := hS.runOut hs9
      refine PW.aload_n (i := 0) dX4_lookAtTimers_24 rfl rfl ?_
      refine PW.aload_n (i := 0) dX4_lookAtTimers_25 rfl rfl ?_
      refine PW.getf FX4_lookAtTimers_11 dX4_lookAtTimers_26 sm_desk rfl ?_
      refine PW.iload_n (i := 1) dX4_lookAtTimers_29 rfl rfl ?_
      refine PW.aald dX4_lookAtTimers_30 sm_lines (by decide) (fun _ => rfl) rfl rfl (Nat.lt_trans hs9 (by decide)) (lnA_get hs9) ?_
      refine PW.callV (k := kX4_lookAtTimers) (n := 1) (c_runOut hS hs9 h6) dX4_lookAtTimers_31 gX4_lookAtTimers_X4_runOut rfl hd_X4_runOut rfl ⟨by decide, by decide⟩ ⟨rfl, rfl⟩ (Nat.le_of_ble_eq_true rfl) ⟨by decide, by decide⟩ sm_desk (by decide) rfl rfl (fun v m9 hp => ?_) (fun _ _ hx => hx.elim)
      obtain ⟨rfl, rfl⟩ := hp
      refine PW.aload_n (i := 0) dX4_lookAtTimers_34 rfl rfl ?_
      refine PW.callV (k := kX4_lookAtTimers) (n := 0) (c_callFromCamps hS2) dX4_lookAtTimers_35 gX4_lookAtTimers_X4_callFromCamps rfl hd_X4_callFromCamps rfl ⟨by decide, by decide⟩ ⟨rfl, rfl⟩ (Nat.le_of_ble_eq_true rfl) ⟨by decide, by decide⟩ sm_desk (by decide) rfl rfl (fun v m9 hp => ?_) (fun _ _ hx => hx.elim)
      obtain ⟨rfl, rfl⟩ := hp
      refine PW.iinc (v := nI (s + 1)) dX4_lookAtTimers_38 rfl (nI_1 s) (by decide) rfl ?_
      refine PW.goto (tgt := 2) dX4_lookAtTimers_41 (by decide) ?_
      exact ih (s + 1) _ (by omega) hS2.camps (by rw [t_camps hS2, t_runOut hS hs9]; exact ht) (by rw [← hr, laL, if_neg h21])
set_option maxRecDepth 100000 in
set_option maxHeartbeats 4000000 in
theorem c_lookAtTimers {M : dM} {R : pM} (hS : Sf M) (ht : M 39 5 < 2147483647) (l9 : Launch) : pMet l9 yX4_lookAtTimers kX4_lookAtTimers false [.ref 0] (SM M ++ R) (fun v m9 => v = none ∧ m9 = SM (f_look M) ++ R) (fun _ _ => False) := by
  refine pMet.of (by decide) rfl rfl rfl (by intro v hv; simp only [List.mem_cons, List.not_mem_nil, or_false] at hv; subst hv; rfl) (Nat.le_of_ble_eq_true rfl) ?_
  show PW _ _ _ _ _ 0 [some (.ref 0), none] [] (SM M ++ R) 0 0
  refine PW.iconst (v := 0) dX4_lookAtTimers_0 (by decide) ?_
  refine PW.istore_n (i := 1) dX4_lookAtTimers_1 rfl (by decide) rfl ?_
  exact la_loop 24 0 _ rfl hS ht rfl
def f_up (M : dM) (l : Nat) : dM := if M l 1 = 4 then f_camps (f_answer M (oth M l) l (slt M l)) else f_enter M l 1 (M 39 5)
theorem b2f {b : Bool} (h : b2i b = 0) : b = false := b2i_0.mp h
set_option maxRecDepth 100000 in
set_option maxHeartbeats 4000000 in
theorem c_up {M : dM} {R : pM} (hS : Sf M) (x : Int32) (l9 : Launch) : pMet l9 yX4_up kX4_up false [.ref 0, .int x] (SM M ++ R) (fun v m9 => ∃ l, l < 24 ∧ x = nI l ∧ f_hook M l = true ∧ v = some (.int (f_up M l l 1)) ∧ m9 = SM (f_up M l) ++ R) (fun E m9 => m9 = SM M ++ R ∧ ((E = "java/lang/IllegalArgumentException" ∧ f_isLine x = false) ∨ (E = "java/lang/IllegalStateException" ∧ ∃ l, l < 24 ∧ x = nI l ∧ f_hook M l = false))) := by
  refine pMet.of (by decide) rfl rfl rfl (by intro v hv; simp only [List.mem_cons, List.not_mem_nil, or_false] at hv; rcases hv with rfl | rfl <;> rfl) (Nat.le_of_ble_eq_true rfl) ?_
  show PW _ _ _ _ _ 0 [some (.ref 0), some (.int x), none] [] (SM M ++ R) 0 0
  refine PW.aload_n (i := 0) dX4_up_0 rfl rfl ?_
  refine PW.iload_n (i := 1) dX4_up_1 rfl rfl ?_
  refine PW.callV (k := kX4_up) (n := 1) (c_lineOf x) dX4_up_2 gX4_up_X4_lineOf rfl hd_X4_lineOf rfl ⟨by decide, by decide⟩ ⟨rfl, rfl⟩ (Nat.le_of_ble_eq_true rfl) ⟨by decide, by decide⟩ sm_desk (by decide) rfl rfl (fun v m9 hp => ?_) (fun E m9 hx => ?_)
  rotate_left
  · obtain ⟨hx, rfl, rfl⟩ := hx
    exact PT.out rfl ⟨rfl, Or.inl ⟨rfl, hx⟩⟩ (by decide) (by decide)
  obtain ⟨l, hl, rfl, rfl, rfl⟩ := hp
  refine PW.astore_n (i := 2) dX4_up_5 rfl (by decide) rfl ?_
  refine PW.aload_n (i := 2) dX4_up_6 rfl rfl ?_
  refine PW.callV (k := kX4_up) (n := 0) (c_isOnHook hl) dX4_up_7 gX4_up_X2_isOnHook rfl hd_X2_isOnHook rfl ⟨by decide, by decide⟩ ⟨rfl, rfl⟩ (Nat.le_of_ble_eq_true rfl) ⟨by decide, by decide⟩ (sm_line hl) (by decide) rfl rfl (fun v m9 hp => ?_) (fun _ _ hx => hx.elim)
  obtain ⟨rfl, rfl⟩ := hp
  refine PW.if_ne (tgt := 23) dX4_up_10 (by decide) (fun h10 => ?_) (fun h10 => ?_)
  · refine PW.aload_n (i := 2) dX4_up_23 rfl rfl ?_
    refine PW.getf FX4_up_64 dX4_up_24 (sm_line hl) rfl ?_
    refine PW.iconst (v := 4) dX4_up_27 (by decide) ?_
    refine PW.icmp_ne (tgt := 43) dX4_up_28 (by decide) (fun h28 => ?_) (fun h28 => ?_)
    · have eU : f_up M l = f_enter M l 1 (M 39 5) := by rw [f_up, if_neg h28]
      refine PW.aload_n (i := 2) dX4_up_43 rfl rfl ?_
      refine PW.iconst (v := 1) dX4_up_44 (by decide) ?_
      refine PW.aload_n (i := 0) dX4_up_45 rfl rfl ?_
      refine PW.getf FX4_up_75 dX4_up_46 sm_desk rfl ?_
      refine PW.callV (k := kX4_up) (n := 2) (c_enter hl _ _) dX4_up_49 gX4_up_X2_enter rfl hd_X2_enter rfl ⟨by decide, by decide⟩ ⟨rfl, rfl⟩ (Nat.le_of_ble_eq_true rfl) ⟨by decide, by decide⟩ (sm_line hl) (by decide) rfl rfl (fun v m9 hp => ?_) (fun _ _ hx => hx.elim)
      obtain ⟨rfl, rfl⟩ := hp
      rw [← eU]
      refine PW.aload_n (i := 2) dX4_up_52 rfl rfl ?_
      refine PW.getf FX4_up_64 dX4_up_53 (sm_line hl) rfl ?_
      exact PW.iret dX4_up_56 rfl ⟨l, hl, rfl, b2i_t h10, rfl, rfl⟩ (by decide) (by decide)
    · obtain ⟨o, t, ho, ht, e3, e4⟩ := (hS.1 l hl).1 (Or.inl h28)
      have eU : f_up M l = f_camps (f_stop (f_begin M o l (nI t)) o) := by rw [f_up, if_pos h28, oth, slt, e3, e4, nI_clamp (by omega), nI_clamp (by omega)]; rfl
      refine PW.aload_n (i := 0) dX4_up_31 rfl rfl ?_
      refine PW.aload_n (i := 2) dX4_up_32 rfl rfl ?_
      refine PW.callV (k := kX4_up) (n := 1) (c_answer hS hl ho ht e3 e4) dX4_up_33 gX4_up_X4_answer rfl hd_X4_answer rfl ⟨by decide, by decide⟩ ⟨rfl, rfl⟩ (Nat.le_of_ble_eq_true rfl) ⟨by decide, by decide⟩ sm_desk (by decide) rfl rfl (fun v m9 hp => ?_) (fun _ _ hx => hx.elim)
      obtain ⟨rfl, rfl⟩ := hp
      refine PW.aload_n (i := 0) dX4_up_36 rfl rfl ?_
      refine PW.callV (k := kX4_up) (n := 0) (c_callFromCamps ((hS.begin ho hl ht).stop ho)) dX4_up_37 gX4_up_X4_callFromCamps rfl hd_X4_callFromCamps rfl ⟨by decide, by decide⟩ ⟨rfl, rfl⟩ (Nat.le_of_ble_eq_true rfl) ⟨by decide, by decide⟩ sm_desk (by decide) rfl rfl (fun v m9 hp => ?_) (fun _ _ hx => hx.elim)
      obtain ⟨rfl, rfl⟩ := hp
      refine PW.goto (tgt := 52) dX4_up_40 (by decide) ?_
      rw [← eU]
      refine PW.aload_n (i := 2) dX4_up_52 rfl rfl ?_
      refine PW.getf FX4_up_64 dX4_up_53 (sm_line hl) rfl ?_
      exact PW.iret dX4_up_56 rfl ⟨l, hl, rfl, b2i_t h10, rfl, rfl⟩ (by decide) (by decide)
  · exact PW.throwS (cls := "java/lang/IllegalStateException") (text := "the line is off the hook") (names := ["java/lang/RuntimeException", "java/lang/Exception"]) (ik := 57) (is := 59) (ic := 61) (by decide +kernel) (by decide +kernel) (by decide +kernel) (by decide +kernel) (by decide +kernel) rfl (by decide +kernel) (fun _ h => List.mem_cons_of_mem _ (List.mem_append_left _ (List.mem_append_right _ h))) (by decide +kernel) (by decide +kernel) dX4_up_13 dX4_up_16 dX4_up_17 dX4_up_19 dX4_up_22 rfl (by decide) (Nat.le_of_ble_eq_true rfl) (by decide) (by decide) (by decide) (by decide) ⟨rfl, Or.inr ⟨rfl, l, hl, rfl, b2f h10⟩⟩
def f_down (M : dM) (l : Nat) : dM := f_camps (f_enter (f_leave M l) l 0 (f_leave M l 39 5))
set_option maxRecDepth 100000 in
set_option maxHeartbeats 4000000 in
theorem c_down {M : dM} {R : pM} (hS : Sf M) (hw : M 37 1 = nI (wr M) ∧ wr M < 100000) (x : Int32) (l9 : Launch) : pMet l9 yX4_down kX4_down false [.ref 0, .int x] (SM M ++ R) (fun v m9 => ∃ l, l < 24 ∧ x = nI l ∧ f_hook M l = false ∧ v = none ∧ m9 = SM (f_down M l) ++ R) (fun E m9 => m9 = SM M ++ R ∧ ((E = "java/lang/IllegalArgumentException" ∧ f_isLine x = false) ∨ (E = "java/lang/IllegalStateException" ∧ ∃ l, l < 24 ∧ x = nI l ∧ f_hook M l = true))) := by
  refine pMet.of (by decide) rfl rfl rfl (by intro v hv; simp only [List.mem_cons, List.not_mem_nil, or_false] at hv; rcases hv with rfl | rfl <;> rfl) (Nat.le_of_ble_eq_true rfl) ?_
  show PW _ _ _ _ _ 0 [some (.ref 0), some (.int x), none] [] (SM M ++ R) 0 0
  refine PW.aload_n (i := 0) dX4_down_0 rfl rfl ?_
  refine PW.iload_n (i := 1) dX4_down_1 rfl rfl ?_
  refine PW.callV (k := kX4_down) (n := 1) (c_lineOf x) dX4_down_2 gX4_down_X4_lineOf rfl hd_X4_lineOf rfl ⟨by decide, by decide⟩ ⟨rfl, rfl⟩ (Nat.le_of_ble_eq_true rfl) ⟨by decide, by decide⟩ sm_desk (by decide) rfl rfl (fun v m9 hp => ?_) (fun E m9 hx => ?_)
  rotate_left
  · obtain ⟨hx, rfl, rfl⟩ := hx
    exact PT.out rfl ⟨rfl, Or.inl ⟨rfl, hx⟩⟩ (by decide) (by decide)
  obtain ⟨l, hl, rfl, rfl, rfl⟩ := hp
  refine PW.astore_n (i := 2) dX4_down_5 rfl (by decide) rfl ?_
  refine PW.aload_n (i := 2) dX4_down_6 rfl rfl ?_
  refine PW.callV (k := kX4_down) (n := 0) (c_isOnHook hl) dX4_down_7 gX4_down_X2_isOnHook rfl hd_X2_isOnHook rfl ⟨by decide, by decide⟩ ⟨rfl, rfl⟩ (Nat.le_of_ble_eq_true rfl) ⟨by decide, by decide⟩ (sm_line hl) (by decide) rfl rfl (fun v m9 hp => ?_) (fun _ _ hx => hx.elim)
  obtain ⟨rfl, rfl⟩ := hp
  refine PW.if_eq (tgt := 23) dX4_down_10 (by decide) (fun h10 => ?_) (fun h10 => ?_)
  · refine PW.aload_n (i := 0) dX4_down_23 rfl rfl ?_
    refine PW.aload_n (i := 2) dX4_down_24 rfl rfl ?_
    refine PW.callV (k := kX4_down) (n := 1) (c_leave hS hl (fun _ => hw)) dX4_down_25 gX4_down_X4_leave rfl hd_X4_leave rfl ⟨by decide, by decide⟩ ⟨rfl, rfl⟩ (Nat.le_of_ble_eq_true rfl) ⟨by decide, by decide⟩ sm_desk (by decide) rfl rfl (fun v m9 hp => ?_) (fun _ _ hx => hx.elim)
    obtain ⟨rfl, rfl⟩ := hp
    refine PW.aload_n (i := 2) dX4_down_28 rfl rfl ?_
    refine PW.iconst (v := 0) dX4_down_29 (by decide) ?_
    refine PW.aload_n (i := 0) dX4_down_30 rfl rfl ?_
    refine PW.getf FX4_down_75 dX4_down_31 sm_desk rfl ?_
    refine PW.callV (k := kX4_down) (n := 2) (c_enter hl _ _) dX4_down_34 gX4_down_X2_enter rfl hd_X2_enter rfl ⟨by decide, by decide⟩ ⟨rfl, rfl⟩ (Nat.le_of_ble_eq_true rfl) ⟨by decide, by decide⟩ (sm_line hl) (by decide) rfl rfl (fun v m9 hp => ?_) (fun _ _ hx => hx.elim)
    obtain ⟨rfl, rfl⟩ := hp
    refine PW.aload_n (i := 0) dX4_down_37 rfl rfl ?_
    refine PW.callV (k := kX4_down) (n := 0) (c_callFromCamps ((hS.leave hl).enter hl (by decide) (by decide) (by decide) (by decide))) dX4_down_38 gX4_down_X4_callFromCamps rfl hd_X4_callFromCamps rfl ⟨by decide, by decide⟩ ⟨rfl, rfl⟩ (Nat.le_of_ble_eq_true rfl) ⟨by decide, by decide⟩ sm_desk (by decide) rfl rfl (fun v m9 hp => ?_) (fun _ _ hx => hx.elim)
    obtain ⟨rfl, rfl⟩ := hp
    exact PW.vret dX4_down_41 rfl ⟨l, hl, rfl, b2f h10, rfl, rfl⟩ (by decide) (by decide)
  · exact PW.throwS (cls := "java/lang/IllegalStateException") (text := "the line is on the hook") (names := ["java/lang/RuntimeException", "java/lang/Exception"]) (ik := 57) (is := 82) (ic := 61) (by decide +kernel) (by decide +kernel) (by decide +kernel) (by decide +kernel) (by decide +kernel) rfl (by decide +kernel) (fun _ h => List.mem_cons_of_mem _ (List.mem_append_left _ (List.mem_append_right _ h))) (by decide +kernel) (by decide +kernel) dX4_down_13 dX4_down_16 dX4_down_17 dX4_down_19 dX4_down_22 rfl (by decide) (Nat.le_of_ble_eq_true rfl) (by decide) (by decide) (by decide) (by decide) ⟨rfl, Or.inr ⟨rfl, l, hl, rfl, b2i_t h10⟩⟩
def f_digit (M : dM) (l : Nat) (d : Int32) : dM := if M l 1 = 1 then up2 (f_enter M l 2 (M 39 5)) l 6 d else if M l 1 = 2 then f_camps (f_call M l (M l 6 * 10 + d)) else M
def okD (d : Int32) : Prop := ¬ d < 0 ∧ ¬ 9 < d
set_option maxRecDepth 100000 in
set_option maxHeartbeats 4000000 in
theorem c_digit {M : dM} {R : pM} (hS : Sf M) (x d : Int32) (l9 : Launch) : pMet l9 yX4_digit kX4_digit false [.ref 0, .int x, .int d] (SM M ++ R) (fun v m9 => ∃ l, l < 24 ∧ x = nI l ∧ okD d ∧ v = some (.int (f_digit M l d l 1)) ∧ m9 = SM (f_digit M l d) ++ R) (fun E m9 => m9 = SM M ++ R ∧ ((E = "java/lang/IllegalArgumentException" ∧ (f_isLine x = false ∨ ¬ okD d)) ∨ (E = "java/lang/IllegalStateException" ∧ False))) := by
  refine pMet.of (by decide) rfl rfl rfl (by intro v hv; simp only [List.mem_cons, List.not_mem_nil, or_false] at hv; rcases hv with rfl | rfl | rfl <;> rfl) (Nat.le_of_ble_eq_true rfl) ?_
  show PW _ _ _ _ _ 0 [some (.ref 0), some (.int x), some (.int d), none] [] (SM M ++ R) 0 0
  refine PW.aload_n (i := 0) dX4_digit_0 rfl rfl ?_
  refine PW.iload_n (i := 1) dX4_digit_1 rfl rfl ?_
  refine PW.callV (k := kX4_digit) (n := 1) (c_lineOf x) dX4_digit_2 gX4_digit_X4_lineOf rfl hd_X4_lineOf rfl ⟨by decide, by decide⟩ ⟨rfl, rfl⟩ (Nat.le_of_ble_eq_true rfl) ⟨by decide, by decide⟩ sm_desk (by decide) rfl rfl (fun v m9 hp => ?_) (fun E m9 hx => ?_)
  rotate_left
  · obtain ⟨hx, rfl, rfl⟩ := hx
    exact PT.out rfl ⟨rfl, Or.inl ⟨rfl, Or.inl hx⟩⟩ (by decide) (by decide)
  obtain ⟨l, hl, rfl, rfl, rfl⟩ := hp
  refine PW.astore_n (i := 3) dX4_digit_5 rfl (by decide) rfl ?_
  refine PW.iload_n (i := 2) dX4_digit_6 rfl rfl ?_
  refine PW.if_lt (tgt := 20) dX4_digit_7 (by decide) (fun h7 => ?_) (fun h7 => ?_)
  · refine PW.iconst (v := 0) dX4_digit_20 (by decide) ?_
    refine PW.callS (k := kX4_digit) (n := 1) (c_require false) dX4_digit_21 gX4_digit_X4_require rfl hs_X4_require rfl ⟨by decide, by decide⟩ ⟨rfl, rfl⟩ (Nat.le_of_ble_eq_true rfl) ⟨by decide, by decide⟩ rfl (fun _ _ hp => absurd hp.1 (by decide)) (fun E m9 hx => ?_)
    obtain ⟨-, rfl, rfl⟩ := hx
    exact PT.out rfl ⟨rfl, Or.inl ⟨rfl, Or.inr (fun q => q.1 h7)⟩⟩ (by decide) (by decide)
  · refine PW.iload_n (i := 2) dX4_digit_10 rfl rfl ?_
    refine PW.bipush (v := 9) dX4_digit_11 (by decide) ?_
    refine PW.icmp_gt (tgt := 20) dX4_digit_13 (by decide) (fun h13 => ?_) (fun h13 => ?_)
    · refine PW.iconst (v := 0) dX4_digit_20 (by decide) ?_
      refine PW.callS (k := kX4_digit) (n := 1) (c_require false) dX4_digit_21 gX4_digit_X4_require rfl hs_X4_require rfl ⟨by decide, by decide⟩ ⟨rfl, rfl⟩ (Nat.le_of_ble_eq_true rfl) ⟨by decide, by decide⟩ rfl (fun _ _ hp => absurd hp.1 (by decide)) (fun E m9 hx => ?_)
      obtain ⟨-, rfl, rfl⟩ := hx
      exact PT.out rfl ⟨rfl, Or.inl ⟨rfl, Or.inr (fun q => q.2 h13)⟩⟩ (by decide) (by decide)
    · refine PW.iconst (v := 1) dX4_digit_16 (by decide) ?_
      refine PW.goto (tgt := 21) dX4_digit_17 (by decide) ?_
      refine PW.callS (k := kX4_digit) (n := 1) (c_require true) dX4_digit_21 gX4_digit_X4_require rfl hs_X4_require rfl ⟨by decide, by decide⟩ ⟨rfl, rfl⟩ (Nat.le_of_ble_eq_true rfl) ⟨by decide, by decide⟩ rfl (fun v m9 hp => ?_) (fun _ _ hx => absurd hx.1 (by decide))
      obtain ⟨-, rfl, rfl⟩ := hp
      refine PW.aload_n (i := 3) dX4_digit_24 rfl rfl ?_
      refine PW.getf FX4_digit_64 dX4_digit_25 (sm_line hl) rfl ?_
      refine PW.iconst (v := 1) dX4_digit_28 (by decide) ?_
      refine PW.icmp_ne (tgt := 49) dX4_digit_29 (by decide) (fun h29 => ?_) (fun h29 => ?_)
      · refine PW.aload_n (i := 3) dX4_digit_49 rfl rfl ?_
        refine PW.getf FX4_digit_64 dX4_digit_50 (sm_line hl) rfl ?_
        refine PW.iconst (v := 2) dX4_digit_53 (by decide) ?_
        refine PW.icmp_ne (tgt := 75) dX4_digit_54 (by decide) (fun h54 => ?_) (fun h54 => ?_)
        · first | rw [← eU] | have eU : f_digit M l d = M := by rw [f_digit, if_neg h29, if_neg h54]
          refine PW.aload_n (i := 3) dX4_digit_75 rfl rfl ?_
          refine PW.getf FX4_digit_64 dX4_digit_76 (sm_line hl) rfl ?_
          first | exact PW.iret dX4_digit_79 rfl ⟨l, hl, rfl, ⟨h7, h13⟩, rfl, rfl⟩ (by decide) (by decide) | exact PW.iret dX4_digit_79 rfl ⟨l, hl, rfl, ⟨h7, h13⟩, by rw [eU], by rw [eU]⟩ (by decide) (by decide)
        · have eU : f_digit M l d = f_camps (f_call M l (M l 6 * 10 + d)) := by rw [f_digit, if_neg h29, if_pos h54]
          refine PW.aload_n (i := 0) dX4_digit_57 rfl rfl ?_
          refine PW.aload_n (i := 3) dX4_digit_58 rfl rfl ?_
          refine PW.aload_n (i := 3) dX4_digit_59 rfl rfl ?_
          refine PW.getf FX4_digit_91 dX4_digit_60 (sm_line hl) rfl ?_
          refine PW.bipush (v := 10) dX4_digit_63 (by decide) ?_
          refine PW.imul dX4_digit_65 ?_
          refine PW.iload_n (i := 2) dX4_digit_66 rfl rfl ?_
          refine PW.iadd dX4_digit_67 ?_
          refine PW.callV (k := kX4_digit) (n := 2) (c_call hS hl _) dX4_digit_68 gX4_digit_X4_call rfl hd_X4_call rfl ⟨by decide, by decide⟩ ⟨rfl, rfl⟩ (Nat.le_of_ble_eq_true rfl) ⟨by decide, by decide⟩ sm_desk (by decide) rfl rfl (fun v m9 hp => ?_) (fun _ _ hx => hx.elim)
          obtain ⟨rfl, rfl⟩ := hp
          refine PW.aload_n (i := 0) dX4_digit_71 rfl rfl ?_
          refine PW.callV (k := kX4_digit) (n := 0) (c_callFromCamps (hS.call hl)) dX4_digit_72 gX4_digit_X4_callFromCamps rfl hd_X4_callFromCamps rfl ⟨by decide, by decide⟩ ⟨rfl, rfl⟩ (Nat.le_of_ble_eq_true rfl) ⟨by decide, by decide⟩ sm_desk (by decide) rfl rfl (fun v m9 hp => ?_) (fun _ _ hx => hx.elim)
          obtain ⟨rfl, rfl⟩ := hp
          first | rw [← eU] | have eU : f_digit M l d = M := by rw [f_digit, if_neg h29, if_neg h54]
          refine PW.aload_n (i := 3) dX4_digit_75 rfl rfl ?_
          refine PW.getf FX4_digit_64 dX4_digit_76 (sm_line hl) rfl ?_
          first | exact PW.iret dX4_digit_79 rfl ⟨l, hl, rfl, ⟨h7, h13⟩, rfl, rfl⟩ (by decide) (by decide) | exact PW.iret dX4_digit_79 rfl ⟨l, hl, rfl, ⟨h7, h13⟩, by rw [eU], by rw [eU]⟩ (by decide) (by decide)
      · have eU : f_digit M l d = up2 (f_enter M l 2 (M 39 5)) l 6 d := by rw [f_digit, if_pos h29]
        refine PW.aload_n (i := 3) dX4_digit_32 rfl rfl ?_
        refine PW.iconst (v := 2) dX4_digit_33 (by decide) ?_
        refine PW.aload_n (i := 0) dX4_digit_34 rfl rfl ?_
        refine PW.getf FX4_digit_75 dX4_digit_35 sm_desk rfl ?_
        refine PW.callV (k := kX4_digit) (n := 2) (c_enter hl _ _) dX4_digit_38 gX4_digit_X2_enter rfl hd_X2_enter rfl ⟨by decide, by decide⟩ ⟨rfl, rfl⟩ (Nat.le_of_ble_eq_true rfl) ⟨by decide, by decide⟩ (sm_line hl) (by decide) rfl rfl (fun v m9 hp => ?_) (fun _ _ hx => hx.elim)
        obtain ⟨rfl, rfl⟩ := hp
        refine PW.aload_n (i := 3) dX4_digit_41 rfl rfl ?_
        refine PW.iload_n (i := 2) dX4_digit_42 rfl rfl ?_
        refine PW.putf FX4_digit_91 (Fw_2_6 _) dX4_digit_43 (sm_line hl) (Nat.le_of_ble_eq_true rfl) (fun _ => rfl) (fun _ => rfl) (pu_line hl (by decide) (by decide)) ?_
        refine PW.goto (tgt := 75) dX4_digit_46 (by decide) ?_
        first | rw [← eU] | have eU : f_digit M l d = M := by rw [f_digit, if_neg h29, if_neg h54]
        refine PW.aload_n (i := 3) dX4_digit_75 rfl rfl ?_
        refine PW.getf FX4_digit_64 dX4_digit_76 (sm_line hl) rfl ?_
        first | exact PW.iret dX4_digit_79 rfl ⟨l, hl, rfl, ⟨h7, h13⟩, rfl, rfl⟩ (by decide) (by decide) | exact PW.iret dX4_digit_79 rfl ⟨l, hl, rfl, ⟨h7, h13⟩, by rw [eU], by rw [eU]⟩ (by decide) (by decide)
