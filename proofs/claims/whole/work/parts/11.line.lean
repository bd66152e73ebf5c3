theorem Fw_0_1 (own : String) : pFw own 0 1 false .int := ⟨_, _, _, _, rfl, tyX0_ok, nmX0, rfl, by decide +kernel, fun h => by cases h⟩
theorem Fw_1_1 (own : String) : pFw own 1 1 false .int := ⟨_, _, _, _, rfl, tyX1_ok, nmX1, rfl, by decide +kernel, fun h => by cases h⟩
theorem Fw_1_2 (own : String) : pFw own 1 2 false .int := ⟨_, _, _, _, rfl, tyX1_ok, nmX1, rfl, by decide +kernel, fun h => by cases h⟩
theorem Fw_1_3 (own : String) : pFw own 1 3 false .int := ⟨_, _, _, _, rfl, tyX1_ok, nmX1, rfl, by decide +kernel, fun h => by cases h⟩
theorem Fw_2_1 (own : String) : pFw own 2 1 false .int := ⟨_, _, _, _, rfl, tyX2_ok, nmX2, rfl, by decide +kernel, fun h => by cases h⟩
theorem Fw_2_2 (own : String) : pFw own 2 2 false .int := ⟨_, _, _, _, rfl, tyX2_ok, nmX2, rfl, by decide +kernel, fun h => by cases h⟩
theorem Fw_2_3 (own : String) : pFw own 2 3 false .int := ⟨_, _, _, _, rfl, tyX2_ok, nmX2, rfl, by decide +kernel, fun h => by cases h⟩
theorem Fw_2_4 (own : String) : pFw own 2 4 false .int := ⟨_, _, _, _, rfl, tyX2_ok, nmX2, rfl, by decide +kernel, fun h => by cases h⟩
theorem Fw_2_5 (own : String) : pFw own 2 5 false .int := ⟨_, _, _, _, rfl, tyX2_ok, nmX2, rfl, by decide +kernel, fun h => by cases h⟩
theorem Fw_2_6 (own : String) : pFw own 2 6 false .int := ⟨_, _, _, _, rfl, tyX2_ok, nmX2, rfl, by decide +kernel, fun h => by cases h⟩
theorem Fw_2_7 (own : String) : pFw own 2 7 false .boolean := ⟨_, _, _, _, rfl, tyX2_ok, nmX2, rfl, by decide +kernel, fun h => by cases h⟩
theorem Fw_2_8 (own : String) : pFw own 2 8 false .int := ⟨_, _, _, _, rfl, tyX2_ok, nmX2, rfl, by decide +kernel, fun h => by cases h⟩
theorem Fw_2_9 (own : String) : pFw own 2 9 false .boolean := ⟨_, _, _, _, rfl, tyX2_ok, nmX2, rfl, by decide +kernel, fun h => by cases h⟩
theorem Fw_2_10 (own : String) : pFw own 2 10 false .int := ⟨_, _, _, _, rfl, tyX2_ok, nmX2, rfl, by decide +kernel, fun h => by cases h⟩
theorem Fw_4_5 (own : String) : pFw own 4 5 false .int := ⟨_, _, _, _, rfl, tyX4_ok, nmX4, rfl, by decide +kernel, fun h => by cases h⟩
theorem Fw_4_6 (own : String) : pFw own 4 6 false .int := ⟨_, _, _, _, rfl, tyX4_ok, nmX4, rfl, by decide +kernel, fun h => by cases h⟩
theorem Fw_5_0 (own : String) : pFw own 5 0 false .int := ⟨_, _, _, _, rfl, tyX5_ok, nmX5, rfl, by decide +kernel, fun h => by cases h⟩
theorem Fw_5_1 (own : String) : pFw own 5 1 false .int := ⟨_, _, _, _, rfl, tyX5_ok, nmX5, rfl, by decide +kernel, fun h => by cases h⟩
theorem Fw_5_9 (own : String) : pFw own 5 9 false .int := ⟨_, _, _, _, rfl, tyX5_ok, nmX5, rfl, by decide +kernel, fun h => by cases h⟩
theorem Fw_5_22 (own : String) : pFw own 5 22 false .int := ⟨_, _, _, _, rfl, tyX5_ok, nmX5, rfl, by decide +kernel, fun h => by cases h⟩
theorem Fw_5_23 (own : String) : pFw own 5 23 false .int := ⟨_, _, _, _, rfl, tyX5_ok, nmX5, rfl, by decide +kernel, fun h => by cases h⟩
abbrev kX2_isOnHook : pK := (RX2, cX2_isOnHook, 1, wsX2_isOnHook, { frames := 0, cells := 0, slots := 0, locals := 0 }, (some .boolean), [], 0, 0, pNo)
theorem FX2_isOnHook_9 : pF kX2_isOnHook.Ts kX2_isOnHook.own 9 2 1 := ⟨_, _, _, by decide, rfl, by decide, by decide +kernel, by decide +kernel⟩
abbrev kX2_ringsFor : pK := (RX2, cX2_ringsFor, 2, wsX2_ringsFor, { frames := 0, cells := 0, slots := 0, locals := 0 }, (some .boolean), [], 0, 0, pNo)
theorem FX2_ringsFor_9 : pF kX2_ringsFor.Ts kX2_ringsFor.own 9 2 1 := ⟨_, _, _, by decide, rfl, by decide, by decide +kernel, by decide +kernel⟩
theorem FX2_ringsFor_18 : pF kX2_ringsFor.Ts kX2_ringsFor.own 18 2 3 := ⟨_, _, _, by decide, rfl, by decide, by decide +kernel, by decide +kernel⟩
abbrev kX2_enter : pK := (RX2, cX2_enter, 3, wsX2_enter, { frames := 0, cells := 0, slots := 0, locals := 0 }, none, [], 0, 0, pNo)
theorem FX2_enter_9 : pF kX2_enter.Ts kX2_enter.own 9 2 1 := ⟨_, _, _, by decide, rfl, by decide, by decide +kernel, by decide +kernel⟩
theorem FX2_enter_15 : pF kX2_enter.Ts kX2_enter.own 15 2 2 := ⟨_, _, _, by decide, rfl, by decide, by decide +kernel, by decide +kernel⟩
theorem FX2_enter_18 : pF kX2_enter.Ts kX2_enter.own 18 2 3 := ⟨_, _, _, by decide, rfl, by decide, by decide +kernel, by decide +kernel⟩
theorem FX2_enter_21 : pF kX2_enter.Ts kX2_enter.own 21 2 4 := ⟨_, _, _, by decide, rfl, by decide, by decide +kernel, by decide +kernel⟩
theorem FX2_enter_24 : pF kX2_enter.Ts kX2_enter.own 24 2 5 := ⟨_, _, _, by decide, rfl, by decide, by decide +kernel, by decide +kernel⟩
theorem FX2_enter_33 : pF kX2_enter.Ts kX2_enter.own 33 2 7 := ⟨_, _, _, by decide, rfl, by decide, by decide +kernel, by decide +kernel⟩
abbrev kX2_talk : pK := (RX2, cX2_talk, 4, wsX2_talk, { frames := 1, cells := 0, slots := 0, locals := 30 }, none, [], 0, 0, pNo)
theorem FX2_talk_18 : pF kX2_talk.Ts kX2_talk.own 18 2 3 := ⟨_, _, _, by decide, rfl, by decide, by decide +kernel, by decide +kernel⟩
theorem FX2_talk_21 : pF kX2_talk.Ts kX2_talk.own 21 2 4 := ⟨_, _, _, by decide, rfl, by decide, by decide +kernel, by decide +kernel⟩
abbrev kX2_due : pK := (RX2, cX2_due, 1, wsX2_due, { frames := 0, cells := 0, slots := 0, locals := 0 }, (some .int), [], 0, 0, pNo)
theorem FX2_due_9 : pF kX2_due.Ts kX2_due.own 9 2 1 := ⟨_, _, _, by decide, rfl, by decide, by decide +kernel, by decide +kernel⟩
theorem FX2_due_15 : pF kX2_due.Ts kX2_due.own 15 2 2 := ⟨_, _, _, by decide, rfl, by decide, by decide +kernel, by decide +kernel⟩
abbrev kX3_lowestFree : pK := (RX3, cX3_lowestFree, 6, wsX3_lowestFree, { frames := 0, cells := 0, slots := 0, locals := 0 }, (some .int), [], 0, 0, pNo)
theorem FX3_lowestFree_11 : pF kX3_lowestFree.Ts kX3_lowestFree.own 11 3 0 := ⟨_, _, _, by decide, rfl, by decide, by decide +kernel, by decide +kernel⟩
theorem FX3_lowestFree_22 : pF kX3_lowestFree.Ts kX3_lowestFree.own 22 2 0 := ⟨_, _, _, by decide, rfl, by decide, by decide +kernel, by decide +kernel⟩
abbrev kX3_mark : pK := (RX3, cX3_mark, 5, wsX3_mark, { frames := 0, cells := 0, slots := 0, locals := 0 }, none, [], 0, 0, pNo)
theorem FX3_mark_11 : pF kX3_mark.Ts kX3_mark.own 11 3 0 := ⟨_, _, _, by decide, rfl, by decide, by decide +kernel, by decide +kernel⟩
theorem FX3_mark_22 : pF kX3_mark.Ts kX3_mark.own 22 2 0 := ⟨_, _, _, by decide, rfl, by decide, by decide +kernel, by decide +kernel⟩
abbrev kX3_take : pK := (RX3, cX3_take, 4, wsX3_take, { frames := 1, cells := 0, slots := 0, locals := 30 }, (some .int), [], 0, 0, pNo)
theorem FX3_take_22 : pF kX3_take.Ts kX3_take.own 22 2 0 := ⟨_, _, _, by decide, rfl, by decide, by decide +kernel, by decide +kernel⟩
abbrev kX3_release : pK := (RX3, cX3_release, 4, wsX3_release, { frames := 1, cells := 0, slots := 0, locals := 30 }, none, [], 0, 0, pNo)
abbrev kX1_restart : pK := (RX1, cX1_restart, 2, wsX1_restart, { frames := 0, cells := 0, slots := 0, locals := 0 }, none, [], 0, 0, pNo)
theorem FX1_restart_22 : pF kX1_restart.Ts kX1_restart.own 22 1 1 := ⟨_, _, _, by decide, rfl, by decide, by decide +kernel, by decide +kernel⟩
theorem FX1_restart_15 : pF kX1_restart.Ts kX1_restart.own 15 1 2 := ⟨_, _, _, by decide, rfl, by decide, by decide +kernel, by decide +kernel⟩
theorem FX1_restart_19 : pF kX1_restart.Ts kX1_restart.own 19 1 3 := ⟨_, _, _, by decide, rfl, by decide, by decide +kernel, by decide +kernel⟩
abbrev kX1_add : pK := (RX1, cX1_add, 2, wsX1_add, { frames := 0, cells := 0, slots := 0, locals := 0 }, none, [], 0, 0, pNo)
theorem FX1_add_9 : pF kX1_add.Ts kX1_add.own 9 1 0 := ⟨_, _, _, by decide, rfl, by decide, by decide +kernel, by decide +kernel⟩
theorem FX1_add_22 : pF kX1_add.Ts kX1_add.own 22 1 1 := ⟨_, _, _, by decide, rfl, by decide, by decide +kernel, by decide +kernel⟩
abbrev kX0_write : pK := (RX0, cX0_write, 6, wsX0_write, { frames := 0, cells := 0, slots := 0, locals := 0 }, none, [], 0, 0, pNo)
theorem FX0_write_13 : pF kX0_write.Ts kX0_write.own 13 0 1 := ⟨_, _, _, by decide, rfl, by decide, by decide +kernel, by decide +kernel⟩
theorem FX0_write_9 : pF kX0_write.Ts kX0_write.own 9 0 0 := ⟨_, _, _, by decide, rfl, by decide, by decide +kernel, by decide +kernel⟩
abbrev kX0_keeps : pK := (RX0, cX0_keeps, 2, wsX0_keeps, { frames := 0, cells := 0, slots := 0, locals := 0 }, (some .boolean), [], 0, 0, pNo)
theorem FX0_keeps_13 : pF kX0_keeps.Ts kX0_keeps.own 13 0 1 := ⟨_, _, _, by decide, rfl, by decide, by decide +kernel, by decide +kernel⟩
abbrev kX0_read : pK := (RX0, cX0_read, 3, wsX0_read, { frames := 0, cells := 0, slots := 0, locals := 0 }, (some .int), [], 0, 0, pNo)
theorem FX0_read_9 : pF kX0_read.Ts kX0_read.own 9 0 0 := ⟨_, _, _, by decide, rfl, by decide, by decide +kernel, by decide +kernel⟩
def f_enter (M : dM) (l : Nat) (s n : Int32) : dM := up2 (up2 (up2 (up2 (up2 (up2 M l 1 s) l 2 n) l 3 (-1)) l 4 (-1)) l 5 (-1)) l 7 0
set_option maxRecDepth 100000 in
set_option maxHeartbeats 4000000 in
theorem c_enter {M : dM} {R : pM} {l : Nat} (hl : l < 24) (s n : Int32) (l9 : Launch) : pMet l9 yX2_enter kX2_enter false [.ref (2 + l), .int s, .int n] (SM M ++ R) (fun v m9 => v = none ∧ m9 = SM (f_enter M l s n) ++ R) (fun _ _ => False) := by
  refine pMet.of (by decide) rfl rfl rfl (by intro v hv; simp only [List.mem_cons, List.not_mem_nil, or_false] at hv; rcases hv with rfl | rfl | rfl <;> rfl) (Nat.le_of_ble_eq_true rfl) ?_
  show PW _ _ _ _ _ 0 [some (.ref (2 + l)), some (.int s), some (.int n)] [] (SM M ++ R) 0 0
  refine PW.aload_n (i := 0) dX2_enter_0 rfl rfl ?_
  refine PW.iload_n (i := 1) dX2_enter_1 rfl rfl ?_
  refine PW.putf FX2_enter_9 (Fw_2_1 _) dX2_enter_2 (sm_line hl) (Nat.le_of_ble_eq_true rfl) (fun _ => rfl) (fun _ => rfl) (pu_line hl (by decide) (by decide)) ?_
  refine PW.aload_n (i := 0) dX2_enter_5 rfl rfl ?_
  refine PW.iload_n (i := 2) dX2_enter_6 rfl rfl ?_
  refine PW.putf FX2_enter_15 (Fw_2_2 _) dX2_enter_7 (sm_line hl) (Nat.le_of_ble_eq_true rfl) (fun _ => rfl) (fun _ => rfl) (pu_line hl (by decide) (by decide)) ?_
  refine PW.aload_n (i := 0) dX2_enter_10 rfl rfl ?_
  refine PW.iconst (v := (-1)) dX2_enter_11 (by decide) ?_
  refine PW.putf FX2_enter_18 (Fw_2_3 _) dX2_enter_12 (sm_line hl) (Nat.le_of_ble_eq_true rfl) (fun _ => rfl) (fun _ => rfl) (pu_line hl (by decide) (by decide)) ?_
  refine PW.aload_n (i := 0) dX2_enter_15 rfl rfl ?_
  refine PW.iconst (v := (-1)) dX2_enter_16 (by decide) ?_
  refine PW.putf FX2_enter_21 (Fw_2_4 _) dX2_enter_17 (sm_line hl) (Nat.le_of_ble_eq_true rfl) (fun _ => rfl) (fun _ => rfl) (pu_line hl (by decide) (by decide)) ?_
  refine PW.aload_n (i := 0) dX2_enter_20 rfl rfl ?_
  refine PW.iconst (v := (-1)) dX2_enter_21 (by decide) ?_
  refine PW.putf FX2_enter_24 (Fw_2_5 _) dX2_enter_22 (sm_line hl) (Nat.le_of_ble_eq_true rfl) (fun _ => rfl) (fun _ => rfl) (pu_line hl (by decide) (by decide)) ?_
  refine PW.aload_n (i := 0) dX2_enter_25 rfl rfl ?_
  refine PW.iconst (v := 0) dX2_enter_26 (by decide) ?_
  refine PW.putf FX2_enter_33 (Fw_2_7 _) dX2_enter_27 (sm_line hl) (Nat.le_of_ble_eq_true rfl) (fun _ => rfl) (fun _ => rfl) (pu_line hl (by decide) (by decide)) ?_
  exact PW.vret dX2_enter_30 rfl ⟨rfl, rfl⟩ (by decide) (by decide)
def f_talk (M : dM) (l : Nat) (w b n : Int32) : dM := up2 (up2 (f_enter M l 6 n) l 3 w) l 4 b
set_option maxRecDepth 100000 in
set_option maxHeartbeats 4000000 in
theorem c_talk {M : dM} {R : pM} {l : Nat} (hl : l < 24) (w b n : Int32) (l9 : Launch) : pMet l9 yX2_talk kX2_talk false [.ref (2 + l), .int w, .int b, .int n] (SM M ++ R) (fun v m9 => v = none ∧ m9 = SM (f_talk M l w b n) ++ R) (fun _ _ => False) := by
  refine pMet.of (by decide) rfl rfl rfl (by intro v hv; simp only [List.mem_cons, List.not_mem_nil, or_false] at hv; rcases hv with rfl | rfl | rfl | rfl <;> rfl) (Nat.le_of_ble_eq_true rfl) ?_
  show PW _ _ _ _ _ 0 [some (.ref (2 + l)), some (.int w), some (.int b), some (.int n)] [] (SM M ++ R) 0 0
  refine PW.aload_n (i := 0) dX2_talk_0 rfl rfl ?_
  refine PW.bipush (v := 6) dX2_talk_1 (by decide) ?_
  refine PW.iload_n (i := 3) dX2_talk_3 rfl rfl ?_
  refine PW.callV (k := kX2_talk) (n := 2) (c_enter hl _ _) dX2_talk_4 gX2_talk_X2_enter rfl hd_X2_enter rfl ⟨by decide, by decide⟩ ⟨rfl, rfl⟩ (Nat.le_of_ble_eq_true rfl) ⟨by decide, by decide⟩ (sm_line hl) (by decide) rfl rfl (fun v m9 hp => ?_) (fun _ _ hx => hx.elim)
  obtain ⟨rfl, rfl⟩ := hp
  refine PW.aload_n (i := 0) dX2_talk_7 rfl rfl ?_
  refine PW.iload_n (i := 1) dX2_talk_8 rfl rfl ?_
  refine PW.putf FX2_talk_18 (Fw_2_3 _) dX2_talk_9 (sm_line hl) (Nat.le_of_ble_eq_true rfl) (fun _ => rfl) (fun _ => rfl) (pu_line hl (by decide) (by decide)) ?_
  refine PW.aload_n (i := 0) dX2_talk_12 rfl rfl ?_
  refine PW.iload_n (i := 2) dX2_talk_13 rfl rfl ?_
  refine PW.putf FX2_talk_21 (Fw_2_4 _) dX2_talk_14 (sm_line hl) (Nat.le_of_ble_eq_true rfl) (fun _ => rfl) (fun _ => rfl) (pu_line hl (by decide) (by decide)) ?_
  exact PW.vret dX2_talk_17 rfl ⟨rfl, rfl⟩ (by decide) (by decide)
def b2i (b : Bool) : Int32 := if b then 1 else 0
theorem b2i_n (b : Bool) : narrow .boolean (.int (b2i b)) = .int (b2i b) := by cases b <;> rfl
def f_hook (M : dM) (l : Nat) : Bool := decide (M l 1 = 0 ∨ M l 1 = 4)
set_option maxRecDepth 100000 in
set_option maxHeartbeats 4000000 in
theorem c_isOnHook {M : dM} {R : pM} {l : Nat} (hl : l < 24) (l9 : Launch) : pMet l9 yX2_isOnHook kX2_isOnHook false [.ref (2 + l)] (SM M ++ R) (fun v m9 => v = some (.int (b2i (f_hook M l))) ∧ m9 = SM (M) ++ R) (fun _ _ => False) := by
  refine pMet.of (by decide) rfl rfl rfl (by intro v hv; simp only [List.mem_cons, List.not_mem_nil, or_false] at hv; subst hv; rfl) (Nat.le_of_ble_eq_true rfl) ?_
  show PW _ _ _ _ _ 0 [some (.ref (2 + l))] [] (SM M ++ R) 0 0
  refine PW.aload_n (i := 0) dX2_isOnHook_0 rfl rfl ?_
  refine PW.getf FX2_isOnHook_9 dX2_isOnHook_1 (sm_line hl) rfl ?_
  refine PW.if_eq (tgt := 15) dX2_isOnHook_4 (by decide) (fun h4 => ?_) (fun h4 => ?_)
  · refine PW.iconst (v := 1) dX2_isOnHook_15 (by decide) ?_
    refine PW.goto (tgt := 20) dX2_isOnHook_16 (by decide) ?_
    exact PW.zret (v := 1) dX2_isOnHook_20 rfl rfl ⟨by simp [f_hook, b2i, h4], rfl⟩ (by decide) (by decide)
  · refine PW.aload_n (i := 0) dX2_isOnHook_7 rfl rfl ?_
    refine PW.getf FX2_isOnHook_9 dX2_isOnHook_8 (sm_line hl) rfl ?_
    refine PW.iconst (v := 4) dX2_isOnHook_11 (by decide) ?_
    refine PW.icmp_ne (tgt := 19) dX2_isOnHook_12 (by decide) (fun h12 => ?_) (fun h12 => ?_)
    · refine PW.iconst (v := 0) dX2_isOnHook_19 (by decide) ?_
      exact PW.zret (v := 0) dX2_isOnHook_20 rfl rfl ⟨by simp [f_hook, b2i, h4, h12], rfl⟩ (by decide) (by decide)
    · refine PW.iconst (v := 1) dX2_isOnHook_15 (by decide) ?_
      refine PW.goto (tgt := 20) dX2_isOnHook_16 (by decide) ?_
      exact PW.zret (v := 1) dX2_isOnHook_20 rfl rfl ⟨by simp [f_hook, b2i, h4, h12], rfl⟩ (by decide) (by decide)
def f_rfor (M : dM) (l : Nat) (c : Int32) : Bool := decide (M l 1 = 4 ∧ M l 3 = c)
set_option maxRecDepth 100000 in
set_option maxHeartbeats 4000000 in
theorem c_ringsFor {M : dM} {R : pM} {l : Nat} (hl : l < 24) (c : Int32) (l9 : Launch) : pMet l9 yX2_ringsFor kX2_ringsFor false [.ref (2 + l), .int c] (SM M ++ R) (fun v m9 => v = some (.int (b2i (f_rfor M l c))) ∧ m9 = SM (M) ++ R) (fun _ _ => False) := by
  refine pMet.of (by decide) rfl rfl rfl (by intro v hv; simp only [List.mem_cons, List.not_mem_nil, or_false] at hv; rcases hv with rfl | rfl <;> rfl) (Nat.le_of_ble_eq_true rfl) ?_
  show PW _ _ _ _ _ 0 [some (.ref (2 + l)), some (.int c)] [] (SM M ++ R) 0 0
  refine PW.aload_n (i := 0) dX2_ringsFor_0 rfl rfl ?_
  refine PW.getf FX2_ringsFor_9 dX2_ringsFor_1 (sm_line hl) rfl ?_
  refine PW.iconst (v := 4) dX2_ringsFor_4 (by decide) ?_
  refine PW.icmp_ne (tgt := 20) dX2_ringsFor_5 (by decide) (fun h5 => ?_) (fun h5 => ?_)
  · refine PW.iconst (v := 0) dX2_ringsFor_20 (by decide) ?_
    exact PW.zret (v := 0) dX2_ringsFor_21 rfl rfl ⟨by simp [f_rfor, b2i, h5], rfl⟩ (by decide) (by decide)
  · refine PW.aload_n (i := 0) dX2_ringsFor_8 rfl rfl ?_
    refine PW.getf FX2_ringsFor_18 dX2_ringsFor_9 (sm_line hl) rfl ?_
    refine PW.iload_n (i := 1) dX2_ringsFor_12 rfl rfl ?_
    refine PW.icmp_ne (tgt := 20) dX2_ringsFor_13 (by decide) (fun h13 => ?_) (fun h13 => ?_)
    · refine PW.iconst (v := 0) dX2_ringsFor_20 (by decide) ?_
      exact PW.zret (v := 0) dX2_ringsFor_21 rfl rfl ⟨by simp [f_rfor, b2i, h5, h13], rfl⟩ (by decide) (by decide)
    · refine PW.iconst (v := 1) dX2_ringsFor_16 (by decide) ?_
      refine PW.goto (tgt := 21) dX2_ringsFor_17 (by decide) ?_
      exact PW.zret (v := 1) dX2_ringsFor_21 rfl rfl ⟨by simp [f_rfor, b2i, h5, h13], rfl⟩ (by decide) (by decide)
