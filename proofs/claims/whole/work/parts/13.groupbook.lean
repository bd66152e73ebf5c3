abbrev kX3_slotsInUse : pK := (RX3, cX3_slotsInUse, 4, wsX3_slotsInUse, { frames := 0, cells := 0, slots := 0, locals := 0 }, (some .int), [], 0, 0, pNo)
theorem FX3_slotsInUse_11 : pF kX3_slotsInUse.Ts kX3_slotsInUse.own 11 3 0 := ⟨_, _, _, by decide, rfl, by decide, by decide +kernel, by decide +kernel⟩
abbrev kX1_has : pK := (RX1, cX1_has, 3, wsX1_has, { frames := 0, cells := 0, slots := 0, locals := 0 }, (some .boolean), [], 0, 0, pNo)
theorem FX1_has_22 : pF kX1_has.Ts kX1_has.own 22 1 1 := ⟨_, _, _, by decide, rfl, by decide, by decide +kernel, by decide +kernel⟩
theorem FX1_has_9 : pF kX1_has.Ts kX1_has.own 9 1 0 := ⟨_, _, _, by decide, rfl, by decide, by decide +kernel, by decide +kernel⟩
def f_restart (M : dM) (g : Nat) (o : Int32) : dM := up2 (up2 (up2 M (28 + g) 1 0) (28 + g) 2 o) (28 + g) 3 (-1)
set_option maxRecDepth 100000 in
set_option maxHeartbeats 4000000 in
theorem c_restart {M : dM} {R : pM} {g : Nat} (hg : g < 4) (o : Int32) (l9 : Launch) : pMet l9 yX1_restart kX1_restart false [.ref (33 + 2 * g), .int o] (SM M ++ R) (fun v m9 => v = none ∧ m9 = SM (f_restart M g o) ++ R) (fun _ _ => False) := by
  refine pMet.of (by decide) rfl rfl rfl (by intro v hv; simp only [List.mem_cons, List.not_mem_nil, or_false] at hv; rcases hv with rfl | rfl <;> rfl) (Nat.le_of_ble_eq_true rfl) ?_
  show PW _ _ _ _ _ 0 [some (.ref (33 + 2 * g)), some (.int o)] [] (SM M ++ R) 0 0
  refine PW.aload_n (i := 0) dX1_restart_0 rfl rfl ?_
  refine PW.iconst (v := 0) dX1_restart_1 (by decide) ?_
  refine PW.putf FX1_restart_22 (Fw_1_1 _) dX1_restart_2 (sm_grp hg) (Nat.le_of_ble_eq_true rfl) (fun _ => rfl) (fun _ => rfl) (pu_grp hg (by decide) (by decide)) ?_
  refine PW.aload_n (i := 0) dX1_restart_5 rfl rfl ?_
  refine PW.iload_n (i := 1) dX1_restart_6 rfl rfl ?_
  refine PW.putf FX1_restart_15 (Fw_1_2 _) dX1_restart_7 (sm_grp hg) (Nat.le_of_ble_eq_true rfl) (fun _ => rfl) (fun _ => rfl) (pu_grp hg (by decide) (by decide)) ?_
  refine PW.aload_n (i := 0) dX1_restart_10 rfl rfl ?_
  refine PW.iconst (v := (-1)) dX1_restart_11 (by decide) ?_
  refine PW.putf FX1_restart_19 (Fw_1_3 _) dX1_restart_12 (sm_grp hg) (Nat.le_of_ble_eq_true rfl) (fun _ => rfl) (fun _ => rfl) (pu_grp hg (by decide) (by decide)) ?_
  exact PW.vret dX1_restart_15 rfl ⟨rfl, rfl⟩ (by decide) (by decide)
def f_add (M : dM) (g n : Nat) (x : Int32) : dM := up2 (up2 M (32 + g) n x) (28 + g) 1 (nI (n + 1))
theorem up2_r' {M : dM} {r j a b : Nat} {x : Int32} (h : a ≠ r) : up2 M r j x a b = M a b := up2_r h
set_option maxRecDepth 100000 in
set_option maxHeartbeats 4000000 in
theorem c_add {M : dM} {R : pM} {g n : Nat} (hg : g < 4) (hn : n < 6) (en : M (28 + g) 1 = nI n) (x : Int32) (l9 : Launch) : pMet l9 yX1_add kX1_add false [.ref (33 + 2 * g), .int x] (SM M ++ R) (fun v m9 => v = none ∧ m9 = SM (f_add M g n x) ++ R) (fun _ _ => False) := by
  refine pMet.of (by decide) rfl rfl rfl (by intro v hv; simp only [List.mem_cons, List.not_mem_nil, or_false] at hv; rcases hv with rfl | rfl <;> rfl) (Nat.le_of_ble_eq_true rfl) ?_
  show PW _ _ _ _ _ 0 [some (.ref (33 + 2 * g)), some (.int x)] [] (SM M ++ R) 0 0
  refine PW.aload_n (i := 0) dX1_add_0 rfl rfl ?_
  refine PW.getf FX1_add_9 dX1_add_1 (sm_grp hg) rfl ?_
  refine PW.aload_n (i := 0) dX1_add_4 rfl rfl ?_
  refine PW.getf FX1_add_22 dX1_add_5 (sm_grp hg) rfl ?_
  refine PW.iload_n (i := 1) dX1_add_8 rfl rfl ?_
  refine PW.iast dX1_add_9 (sm_grw hg) en (by omega) (by rw [iaF_len]; exact hn) (pu_grw hg) ?_
  refine PW.aload_n (i := 0) dX1_add_10 rfl rfl ?_
  refine PW.dup dX1_add_11 rfl ?_
  refine PW.getf FX1_add_22 dX1_add_12 (sm_grp hg) rfl ?_
  rw [up2_r (by omega), en]
  refine PW.iconst (v := 1) dX1_add_15 (by decide) ?_
  refine PW.iadd dX1_add_16 ?_
  rw [show nI n + 1 = nI (n + 1) from nI_1 n]
  refine PW.putf FX1_add_22 (Fw_1_1 _) dX1_add_17 (sm_grp hg) (Nat.le_of_ble_eq_true rfl) (fun _ => rfl) (fun _ => rfl) (pu_grp hg (by decide) (by decide)) ?_
  exact PW.vret dX1_add_20 rfl ⟨rfl, rfl⟩ (by decide) (by decide)
def hasL (p : Nat → Int32) (x : Int32) : Nat → Nat → Bool
  | 0, _ => false
  | n + 1, s => if p s = x then true else hasL p x n (s + 1)
set_option maxRecDepth 100000 in
theorem has_loop {M : dM} {R : pM} {g N n0 : Nat} (hg : g < 4) (hN : N ≤ 6) (en : M (28 + g) 1 = nI N) (x : Int32) : ∀ (n s : Nat), s + n = N → hasL (M (32 + g)) x n s = hasL (M (32 + g)) x N 0 → PW kX1_has false n0 (fun v m9 => v = some (.int (b2i (hasL (M (32 + g)) x N 0))) ∧ m9 = SM M ++ R) (fun _ _ => False) 2 [some (.ref (33 + 2 * g)), some (.int x), some (.int (nI s))] [] (SM M ++ R) 0 0 := by
  intro n
  induction n with
  | zero =>
    intro s hs hr
    refine PW.iload_n (i := 2) dX1_has_2 rfl rfl ?_
    refine PW.aload_n (i := 0) dX1_has_3 rfl rfl ?_
    refine PW.getf FX1_has_22 dX1_has_4 (sm_grp hg) rfl ?_
    rw [en]
    refine PW.icmp_ge (tgt := 28) dX1_has_7 (by decide) (fun _ => ?_) (fun h7 => absurd (nI_le (a := N) (b := s) (by omega) (by omega)) h7)
    refine PW.iconst (v := 0) dX1_has_28 (by decide) ?_
    exact PW.zret (v := 0) dX1_has_29 rfl rfl ⟨by rw [← hr]; rfl, rfl⟩ (by decide) (by decide)
  | succ n ih =>
    intro s hs hr
    refine PW.iload_n (i := 2) dX1_has_2 rfl rfl ?_
    refine PW.aload_n (i := 0) dX1_has_3 rfl rfl ?_
    refine PW.getf FX1_has_22 dX1_has_4 (sm_grp hg) rfl ?_
    rw [en]
    refine PW.icmp_ge (tgt := 28) dX1_has_7 (by decide) (fun h7 => absurd h7 (nI_ge (a := s) (b := N) (by omega) (by omega))) (fun _ => ?_)
    refine PW.aload_n (i := 0) dX1_has_10 rfl rfl ?_
    refine PW.getf FX1_has_9 dX1_has_11 (sm_grp hg) rfl ?_
    refine PW.iload_n (i := 2) dX1_has_14 rfl rfl ?_
    refine PW.iald dX1_has_15 (sm_grw hg) rfl (by omega) (iaF_get (by omega)) ?_
    refine PW.iload_n (i := 1) dX1_has_16 rfl rfl ?_
    refine PW.icmp_ne (tgt := 22) dX1_has_17 (by decide) (fun h17 => ?_) (fun h17 => ?_)
    · refine PW.iinc (v := nI (s + 1)) dX1_has_22 rfl (nI_1 s) (by decide) rfl ?_
      refine PW.goto (tgt := 2) dX1_has_25 (by decide) ?_
      exact ih (s + 1) (by omega) (by rw [← hr, hasL, if_neg h17])
    · refine PW.iconst (v := 1) dX1_has_20 (by decide) ?_
      exact PW.zret (v := 1) dX1_has_21 rfl rfl ⟨by rw [← hr, hasL, if_pos h17]; rfl, rfl⟩ (by decide) (by decide)
set_option maxRecDepth 100000 in
set_option maxHeartbeats 4000000 in
theorem c_has {M : dM} {R : pM} {g N : Nat} (hg : g < 4) (hN : N ≤ 6) (en : M (28 + g) 1 = nI N) (x : Int32) (l9 : Launch) : pMet l9 yX1_has kX1_has false [.ref (33 + 2 * g), .int x] (SM M ++ R) (fun v m9 => v = some (.int (b2i (hasL (M (32 + g)) x N 0))) ∧ m9 = SM (M) ++ R) (fun _ _ => False) := by
  refine pMet.of (by decide) rfl rfl rfl (by intro v hv; simp only [List.mem_cons, List.not_mem_nil, or_false] at hv; rcases hv with rfl | rfl <;> rfl) (Nat.le_of_ble_eq_true rfl) ?_
  show PW _ _ _ _ _ 0 [some (.ref (33 + 2 * g)), some (.int x), none] [] (SM M ++ R) 0 0
  refine PW.iconst (v := 0) dX1_has_0 (by decide) ?_
  refine PW.istore_n (i := 2) dX1_has_1 rfl (by decide) rfl ?_
  exact has_loop hg hN en x N 0 (by omega) rfl
def cnt (p : Nat → Int32) : Nat → Nat → Int32 → Int32
  | 0, _, acc => acc
  | n + 1, j, acc => cnt p n (j + 1) (if p j < 0 then acc else acc + 1)
def cntU (M : dM) : Nat → Nat → Int32 → Int32
  | 0, _, acc => acc
  | n + 1, u, acc => cntU M n (u + 1) (cnt (M (24 + u)) 8 0 acc)
set_option maxRecDepth 100000 in
theorem siu_in {M : dM} {R : pM} {P : pP} {T : pT} {n0 u : Nat} {fin : Int32} (hu : u < 4) (kk : PW kX3_slotsInUse false n0 P T 37 [some (.ref 26), some (.int fin), some (.int (nI u)), some (.int (nI 8))] [] (SM M ++ R) 0 0) : ∀ (n j : Nat) (acc : Int32), j + n = 8 → cnt (M (24 + u)) n j acc = fin → PW kX3_slotsInUse false n0 P T 11 [some (.ref 26), some (.int acc), some (.int (nI u)), some (.int (nI j))] [] (SM M ++ R) 0 0 := by
  intro n
  induction n with
  | zero =>
    intro j acc hj hr
    have ej : j = 8 := by omega
    subst ej
    have hr : acc = fin := hr
    subst hr
    refine PW.iload_n (i := 3) dX3_slotsInUse_11 rfl rfl ?_
    refine PW.bipush (v := 8) dX3_slotsInUse_12 (by decide) ?_
    refine PW.icmp_ge (tgt := 37) dX3_slotsInUse_14 (by decide) (fun _ => ?_) (fun h14 => absurd (nI_le (a := 8) (b := 8) (by omega) (by omega)) h14)
    exact kk
  | succ n ih =>
    intro j acc hj hr
    refine PW.iload_n (i := 3) dX3_slotsInUse_11 rfl rfl ?_
    refine PW.bipush (v := 8) dX3_slotsInUse_12 (by decide) ?_
    refine PW.icmp_ge (tgt := 37) dX3_slotsInUse_14 (by decide) (fun h14 => absurd h14 (nI_ge (a := j) (b := 8) (by omega) (by decide))) (fun _ => ?_)
    refine PW.aload_n (i := 0) dX3_slotsInUse_17 rfl rfl ?_
    refine PW.getf FX3_slotsInUse_11 dX3_slotsInUse_18 sm_sw rfl ?_
    refine PW.iload_n (i := 2) dX3_slotsInUse_21 rfl rfl ?_
    refine PW.aald dX3_slotsInUse_22 sm_car (by decide) (fun _ => rfl) rfl rfl (Nat.lt_trans hu (by decide)) (car_get _ hu) ?_
    refine PW.iload_n (i := 3) dX3_slotsInUse_23 rfl rfl ?_
    refine PW.iald dX3_slotsInUse_24 (sm_row hu) rfl (by omega) (iaF_get (by omega)) ?_
    refine PW.if_lt (tgt := 31) dX3_slotsInUse_25 (by decide) (fun h25 => ?_) (fun h25 => ?_)
    · refine PW.iinc (v := nI (j + 1)) dX3_slotsInUse_31 rfl (nI_1 j) (by decide) rfl ?_
      refine PW.goto (tgt := 11) dX3_slotsInUse_34 (by decide) ?_
      exact ih (j + 1) _ (by omega) (by rw [← hr, cnt, if_pos h25])
    · refine PW.iinc (v := acc + 1) dX3_slotsInUse_28 rfl rfl (by decide) rfl ?_
      refine PW.iinc (v := nI (j + 1)) dX3_slotsInUse_31 rfl (nI_1 j) (by decide) rfl ?_
      refine PW.goto (tgt := 11) dX3_slotsInUse_34 (by decide) ?_
      exact ih (j + 1) _ (by omega) (by rw [← hr, cnt, if_neg h25])
set_option maxRecDepth 100000 in
theorem siu_out {M : dM} {R : pM} {n0 : Nat} : ∀ (n u : Nat) (acc : Int32) (w3 : Option Value), u + n = 4 → cntU M n u acc = cntU M 4 0 0 → PW kX3_slotsInUse false n0 (fun v m9 => v = some (.int (cntU M 4 0 0)) ∧ m9 = SM M ++ R) (fun _ _ => False) 4 [some (.ref 26), some (.int acc), some (.int (nI u)), w3] [] (SM M ++ R) 0 0 := by
  intro n
  induction n with
  | zero =>
    intro u acc w3 hu hr
    refine PW.iload_n (i := 2) dX3_slotsInUse_4 rfl rfl ?_
    refine PW.iconst (v := 4) dX3_slotsInUse_5 (by decide) ?_
    refine PW.icmp_ge (tgt := 43) dX3_slotsInUse_6 (by decide) (fun _ => ?_) (fun h6 => absurd (nI_le (a := 4) (b := u) (by omega) (by omega)) h6)
    refine PW.iload_n (i := 1) dX3_slotsInUse_43 rfl rfl ?_
    exact PW.iret dX3_slotsInUse_44 rfl ⟨by rw [← hr]; rfl, rfl⟩ (by decide) (by decide)
  | succ n ih =>
    intro u acc w3 hu hr
    refine PW.iload_n (i := 2) dX3_slotsInUse_4 rfl rfl ?_
    refine PW.iconst (v := 4) dX3_slotsInUse_5 (by decide) ?_
    refine PW.icmp_ge (tgt := 43) dX3_slotsInUse_6 (by decide) (fun h6 => absurd h6 (nI_ge (a := u) (b := 4) (by omega) (by decide))) (fun _ => ?_)
    refine PW.iconst (v := 0) dX3_slotsInUse_9 (by decide) ?_
    refine PW.istore_n (i := 3) dX3_slotsInUse_10 rfl (by decide) rfl ?_
    refine siu_in (fin := cnt (M (24 + u)) 8 0 acc) (by omega) ?_ 8 0 acc rfl rfl
    refine PW.iinc (v := nI (u + 1)) dX3_slotsInUse_37 rfl (nI_1 u) (by decide) rfl ?_
    refine PW.goto (tgt := 4) dX3_slotsInUse_40 (by decide) ?_
    exact ih (u + 1) _ _ (by omega) (by rw [← hr, cntU])
set_option maxRecDepth 100000 in
set_option maxHeartbeats 4000000 in
theorem c_slotsInUse {M : dM} {R : pM} (l9 : Launch) : pMet l9 yX3_slotsInUse kX3_slotsInUse false [.ref 26] (SM M ++ R) (fun v m9 => v = some (.int (cntU M 4 0 0)) ∧ m9 = SM (M) ++ R) (fun _ _ => False) := by
  refine pMet.of (by decide) rfl rfl rfl (by intro v hv; simp only [List.mem_cons, List.not_mem_nil, or_false] at hv; subst hv; rfl) (Nat.le_of_ble_eq_true rfl) ?_
  show PW _ _ _ _ _ 0 [some (.ref 26), none, none, none] [] (SM M ++ R) 0 0
  refine PW.iconst (v := 0) dX3_slotsInUse_0 (by decide) ?_
  refine PW.istore_n (i := 1) dX3_slotsInUse_1 rfl (by decide) rfl ?_
  refine PW.iconst (v := 0) dX3_slotsInUse_2 (by decide) ?_
  refine PW.istore_n (i := 2) dX3_slotsInUse_3 rfl (by decide) rfl ?_
  exact siu_out 4 0 0 _ rfl rfl
def f_write (M : dM) (w : Nat) (c o b u : Int32) : dM := up2 (up2 (up2 (up2 (up2 M 38 (w % 60 * 4) c) 38 (w % 60 * 4 + 1) o) 38 (w % 60 * 4 + 2) b) 38 (w % 60 * 4 + 3) u) 37 1 (nI (w + 1))
theorem nI_k (a b : Nat) : nI a + nI b = nI (a + b) := nI_add a b
set_option maxRecDepth 100000 in
set_option maxHeartbeats 4000000 in
theorem c_write {M : dM} {R : pM} {w : Nat} (hw : w < 100000) (ew : M 37 1 = nI w) (c o b u : Int32) (l9 : Launch) : pMet l9 yX0_write kX0_write false [.ref 42, .int c, .int o, .int b, .int u] (SM M ++ R) (fun v m9 => v = none ∧ m9 = SM (f_write M w c o b u) ++ R) (fun _ _ => False) := by
  refine pMet.of (by decide) rfl rfl rfl (by intro v hv; simp only [List.mem_cons, List.not_mem_nil, or_false] at hv; rcases hv with rfl | rfl | rfl | rfl | rfl <;> rfl) (Nat.le_of_ble_eq_true rfl) ?_
  show PW _ _ _ _ _ 0 [some (.ref 42), some (.int c), some (.int o), some (.int b), some (.int u), none] [] (SM M ++ R) 0 0
  refine PW.aload_n (i := 0) dX0_write_0 rfl rfl ?_
  refine PW.getf FX0_write_13 dX0_write_1 sm_book rfl ?_
  refine PW.bipush (v := 60) dX0_write_4 (by decide) ?_
  rw [ew]
  refine PW.irem dX0_write_6 (by decide) ?_
  rw [rem60 (by omega)]
  refine PW.iconst (v := 4) dX0_write_7 (by decide) ?_
  refine PW.imul dX0_write_8 ?_
  rw [nI_mul4]
  refine PW.istore dX0_write_9 (by decide) rfl ?_
  refine PW.aload_n (i := 0) dX0_write_11 rfl rfl ?_
  refine PW.getf FX0_write_9 dX0_write_12 sm_book rfl ?_
  refine PW.iload dX0_write_15 rfl ?_
  refine PW.iload_n (i := 1) dX0_write_17 rfl rfl ?_
  refine PW.iast dX0_write_18 sm_ent rfl (by omega) (by rw [iaF_len]; omega) pu_ent ?_
  refine PW.aload_n (i := 0) dX0_write_19 rfl rfl ?_
  refine PW.getf FX0_write_9 dX0_write_20 sm_book rfl ?_
  refine PW.iload dX0_write_23 rfl ?_
  refine PW.iconst (v := 1) dX0_write_25 (by decide) ?_
  refine PW.iadd dX0_write_26 ?_
  refine PW.iload_n (i := 2) dX0_write_27 rfl rfl ?_
  refine PW.iast dX0_write_28 sm_ent (nI_k (w % 60 * 4) 1) (by omega) (by rw [iaF_len]; omega) pu_ent ?_
  refine PW.aload_n (i := 0) dX0_write_29 rfl rfl ?_
  refine PW.getf FX0_write_9 dX0_write_30 sm_book rfl ?_
  refine PW.iload dX0_write_33 rfl ?_
  refine PW.iconst (v := 2) dX0_write_35 (by decide) ?_
  refine PW.iadd dX0_write_36 ?_
  refine PW.iload_n (i := 3) dX0_write_37 rfl rfl ?_
  refine PW.iast dX0_write_38 sm_ent (nI_k (w % 60 * 4) 2) (by omega) (by rw [iaF_len]; omega) pu_ent ?_
  refine PW.aload_n (i := 0) dX0_write_39 rfl rfl ?_
  refine PW.getf FX0_write_9 dX0_write_40 sm_book rfl ?_
  refine PW.iload dX0_write_43 rfl ?_
  refine PW.iconst (v := 3) dX0_write_45 (by decide) ?_
  refine PW.iadd dX0_write_46 ?_
  refine PW.iload dX0_write_47 rfl ?_
  refine PW.iast dX0_write_49 sm_ent (nI_k (w % 60 * 4) 3) (by omega) (by rw [iaF_len]; omega) pu_ent ?_
  refine PW.aload_n (i := 0) dX0_write_50 rfl rfl ?_
  refine PW.dup dX0_write_51 rfl ?_
  refine PW.getf FX0_write_13 dX0_write_52 sm_book rfl ?_
  rw [up2_r (by decide), up2_r (by decide), up2_r (by decide), up2_r (by decide), ew]
  refine PW.iconst (v := 1) dX0_write_55 (by decide) ?_
  refine PW.iadd dX0_write_56 ?_
  rw [show nI w + 1 = nI (w + 1) from nI_1 w]
  refine PW.putf FX0_write_13 (Fw_0_1 _) dX0_write_57 sm_book (Nat.le_of_ble_eq_true rfl) (fun _ => rfl) (fun _ => rfl) pu_book ?_
  exact PW.vret dX0_write_60 rfl ⟨rfl, rfl⟩ (by decide) (by decide)
def f_keeps (M : dM) (k : Int32) : Bool := decide (¬ k < 0 ∧ ¬ M 37 1 ≤ k ∧ ¬ k < M 37 1 - 60)
set_option maxRecDepth 100000 in
set_option maxHeartbeats 4000000 in
theorem c_keeps {M : dM} {R : pM} (k : Int32) (l9 : Launch) : pMet l9 yX0_keeps kX0_keeps false [.ref 42, .int k] (SM M ++ R) (fun v m9 => v = some (.int (b2i (f_keeps M k))) ∧ m9 = SM (M) ++ R) (fun _ _ => False) := by
  refine pMet.of (by decide) rfl rfl rfl (by intro v hv; simp only [List.mem_cons, List.not_mem_nil, or_false] at hv; rcases hv with rfl | rfl <;> rfl) (Nat.le_of_ble_eq_true rfl) ?_
  show PW _ _ _ _ _ 0 [some (.ref 42), some (.int k)] [] (SM M ++ R) 0 0
  refine PW.iload_n (i := 1) dX0_keeps_0 rfl rfl ?_
  refine PW.if_lt (tgt := 27) dX0_keeps_1 (by decide) (fun h1 => ?_) (fun h1 => ?_)
  · refine PW.iconst (v := 0) dX0_keeps_27 (by decide) ?_
    exact PW.zret (v := 0) dX0_keeps_28 rfl rfl ⟨by simp [f_keeps, b2i, h1], rfl⟩ (by decide) (by decide)
  · refine PW.iload_n (i := 1) dX0_keeps_4 rfl rfl ?_
    refine PW.aload_n (i := 0) dX0_keeps_5 rfl rfl ?_
    refine PW.getf FX0_keeps_13 dX0_keeps_6 sm_book rfl ?_
    refine PW.icmp_ge (tgt := 27) dX0_keeps_9 (by decide) (fun h9 => ?_) (fun h9 => ?_)
    · refine PW.iconst (v := 0) dX0_keeps_27 (by decide) ?_
      exact PW.zret (v := 0) dX0_keeps_28 rfl rfl ⟨by simp [f_keeps, b2i, h1, h9], rfl⟩ (by decide) (by decide)
    · refine PW.iload_n (i := 1) dX0_keeps_12 rfl rfl ?_
      refine PW.aload_n (i := 0) dX0_keeps_13 rfl rfl ?_
      refine PW.getf FX0_keeps_13 dX0_keeps_14 sm_book rfl ?_
      refine PW.bipush (v := 60) dX0_keeps_17 (by decide) ?_
      refine PW.isub dX0_keeps_19 ?_
      refine PW.icmp_lt (tgt := 27) dX0_keeps_20 (by decide) (fun h20 => ?_) (fun h20 => ?_)
      · refine PW.iconst (v := 0) dX0_keeps_27 (by decide) ?_
        exact PW.zret (v := 0) dX0_keeps_28 rfl rfl ⟨by simp [f_keeps, b2i, h1, h9, h20], rfl⟩ (by decide) (by decide)
      · refine PW.iconst (v := 1) dX0_keeps_23 (by decide) ?_
        refine PW.goto (tgt := 28) dX0_keeps_24 (by decide) ?_
        exact PW.zret (v := 1) dX0_keeps_28 rfl rfl ⟨by simp [f_keeps, b2i, h1, h9, h20], rfl⟩ (by decide) (by decide)
set_option maxRecDepth 100000 in
set_option maxHeartbeats 4000000 in
theorem c_read {M : dM} {R : pM} {q t : Nat} (hq : q < 100000) (ht : t < 4) (l9 : Launch) : pMet l9 yX0_read kX0_read false [.ref 42, .int (nI q), .int (nI t)] (SM M ++ R) (fun v m9 => v = some (.int (M 38 (q % 60 * 4 + t))) ∧ m9 = SM (M) ++ R) (fun _ _ => False) := by
  refine pMet.of (by decide) rfl rfl rfl (by intro v hv; simp only [List.mem_cons, List.not_mem_nil, or_false] at hv; rcases hv with rfl | rfl | rfl <;> rfl) (Nat.le_of_ble_eq_true rfl) ?_
  show PW _ _ _ _ _ 0 [some (.ref 42), some (.int (nI q)), some (.int (nI t))] [] (SM M ++ R) 0 0
  refine PW.aload_n (i := 0) dX0_read_0 rfl rfl ?_
  refine PW.getf FX0_read_9 dX0_read_1 sm_book rfl ?_
  refine PW.iload_n (i := 1) dX0_read_4 rfl rfl ?_
  refine PW.bipush (v := 60) dX0_read_5 (by decide) ?_
  refine PW.irem dX0_read_7 (by decide) ?_
  rw [rem60 (by omega)]
  refine PW.iconst (v := 4) dX0_read_8 (by decide) ?_
  refine PW.imul dX0_read_9 ?_
  rw [nI_mul4]
  refine PW.iload_n (i := 2) dX0_read_10 rfl rfl ?_
  refine PW.iadd dX0_read_11 ?_
  rw [nI_k]
  refine PW.iald dX0_read_12 sm_ent rfl (by omega) (iaF_get (by omega)) ?_
  exact PW.iret dX0_read_13 rfl ⟨rfl, rfl⟩ (by decide) (by decide)
