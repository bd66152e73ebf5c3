set_option maxRecDepth 100000 in
set_option maxHeartbeats 4000000 in
theorem c5_tick_bad {M N : dM} {R : pM} (x : Int32) (hb : g_in x 1 1000 = false) (l9 : Launch) : pMet l9 yX5_tick kX5_tick false [.ref 44, .int x] (SM M ++ (MM N ++ R)) (fun v m9 => v = some (.int (0)) ∧ m9 = SM M ++ (MM (up2 N 39 7 1) ++ R)) (fun _ _ => False) := by
  refine pMet.of (by decide) rfl rfl rfl (by intro v hv; simp only [List.mem_cons, List.not_mem_nil, or_false] at hv; rcases hv with rfl | rfl <;> rfl) (Nat.le_of_ble_eq_true rfl) ?_
  show PW _ _ _ _ _ 0 [some (.ref 44), some (.int x), none, none] [] (SM M ++ (MM N ++ R)) 0 0
  refine PW.aload_n (i := 0) dX5_tick_0 rfl rfl ?_
  refine PW.iload_n (i := 1) dX5_tick_1 rfl rfl ?_
  refine PW.iconst (v := 1) dX5_tick_2 (by decide) ?_
  refine PW.sipush (v := 1000) dX5_tick_3 (by decide) ?_
  refine PW.callS (k := kX5_tick) (n := 3) (c5_in _ _ _) dX5_tick_6 gX5_tick_X5_in rfl hs_X5_in rfl ⟨by decide, by decide⟩ ⟨rfl, rfl⟩ (Nat.le_of_ble_eq_true rfl) ⟨by decide, by decide⟩ rfl (fun v m9 hp => ?_) (fun _ _ hx => hx.elim)
  obtain ⟨rfl, rfl⟩ := hp
  rw [hb]
  refine PW.if_ne (tgt := 16) dX5_tick_9 (by decide) (fun h9 => absurd h9 (by decide)) (fun _ => ?_)
  refine PW.iconst (v := 1) dX5_tick_12 (by decide) ?_
  refine PW.goto (tgt := 17) dX5_tick_13 (by decide) ?_
  refine PW.iconst (v := 0) dX5_tick_17 (by decide) ?_
  refine PW.callV (k := kX5_tick) (n := 2) (c5_throwing true false) dX5_tick_18 gX5_tick_X5_throwing rfl hd_X5_throwing rfl ⟨by decide, by decide⟩ ⟨rfl, rfl⟩ (Nat.le_of_ble_eq_true rfl) ⟨by decide, by decide⟩ sm_mod (by decide) rfl rfl (fun v m9 hp => ?_) (fun _ _ hx => hx.elim)
  obtain ⟨rfl, rfl⟩ := hp
  refine PW.if_eq (tgt := 26) dX5_tick_21 (by decide) (fun h21 => absurd h21 (by decide)) (fun _ => ?_)
  refine PW.iconst (v := 0) dX5_tick_24 (by decide) ?_
  exact PW.iret dX5_tick_25 rfl ⟨rfl, rfl⟩ (by decide) (by decide)
def GK (N : dM) : Prop := ∃ Q, Rx 24 Q N ∧ LK Q
theorem GK.watch {N : dM} {l : Nat} (h : GK N) (hl : l < 24) : GK (g_watch N l) := by
  obtain ⟨Q, h1, h2⟩ := h
  by_cases q : Q 39 5 < f_due Q l
  · rw [watch_quiet h1 h2 hl q]; exact ⟨Q, h1, h2⟩
  · obtain ⟨a1, a2, -⟩ := watch_eq h1 h2 hl q
    exact ⟨_, a1, a2⟩
theorem GK.step {N : dM} {T : Nat} (h : GK N) (e : N 39 5 = nI T) (hT : T + 1 ≤ 1000000000) : GK (up2 N 39 5 (N 39 5 + 1)) ∧ GK (waL 24 0 (up2 N 39 5 (N 39 5 + 1))) ∧ waL 24 0 (up2 N 39 5 (N 39 5 + 1)) 39 5 = nI (T + 1) := by
  obtain ⟨Q, h1, h2⟩ := h
  have e1 : N 39 5 + 1 = nI (T + 1) := by rw [e]; exact nI_1 T
  rw [e1]
  have eq : Q 39 5 = nI T := by rw [h1.2.2.2.2.1]; exact e
  have k2 : LK (up2 Q 39 5 (nI (T + 1))) := h2.clock (by rw [eq, nI_toInt (by omega), nI_toInt (by omega)]; omega) (by rw [nI_toInt (by omega)]; omega)
  obtain ⟨a1, a2, a3⟩ := look_eq 24 0 _ _ rfl (h1.clock (v := nI (T + 1))) k2
  refine ⟨⟨_, h1.clock, k2⟩, ⟨_, a1, a2⟩, ?_⟩
  rw [← a1.2.2.2.2.1, a3.1, up2_s]
set_option maxRecDepth 100000 in
set_option maxHeartbeats 4000000 in
theorem tw_loop {M : dM} {R : pM} {P : pP} {T : pT} {n0 K s : Nat} {fin : dM} (kk : ∀ w3 : Option Value, PW kX5_tick false n0 P T 62 [some (.ref 44), some (.int (nI K)), some (.int (nI s)), w3] [] (SM M ++ (MM fin ++ R)) 0 0) : ∀ (n l : Nat) (N : dM), l + n = 24 → GK N → waL n l N = fin → PW kX5_tick false n0 P T 45 [some (.ref 44), some (.int (nI K)), some (.int (nI s)), some (.int (nI l))] [] (SM M ++ (MM N ++ R)) 0 0 := by
  intro n
  induction n with
  | zero =>
    intro l N hl hG hr
    refine PW.iload_n (i := 3) dX5_tick_45 rfl rfl ?_
    refine PW.bipush (v := 24) dX5_tick_46 (by decide) ?_
    refine PW.icmp_ge (tgt := 62) dX5_tick_48 (by decide) (fun _ => ?_) (fun h48 => absurd (nI_le (a := 24) (b := l) (by omega) (by omega)) h48)
    rw [← hr] at kk
    exact kk _
  | succ n ih =>
    intro l N hl hG hr
    refine PW.iload_n (i := 3) dX5_tick_45 rfl rfl ?_
    refine PW.bipush (v := 24) dX5_tick_46 (by decide) ?_
    refine PW.icmp_ge (tgt := 62) dX5_tick_48 (by decide) (fun h48 => absurd h48 (nI_ge (a := l) (b := 24) (by omega) (by decide))) (fun _ => ?_)
    have hl9 : l < 24 := by omega
    obtain ⟨Q, q1, q2⟩ := id hG
    refine PW.aload_n (i := 0) dX5_tick_51 rfl rfl ?_
    refine PW.iload_n (i := 3) dX5_tick_52 rfl rfl ?_
    refine PW.callV (k := kX5_tick) (n := 1) (c5_watch q1 q2.2.1 q2.1 hl9) dX5_tick_53 gX5_tick_X5_watch rfl hd_X5_watch rfl ⟨by decide, by decide⟩ ⟨rfl, rfl⟩ (Nat.le_of_ble_eq_true rfl) ⟨by decide, by decide⟩ sm_mod (by decide) rfl rfl (fun v m9 hp => ?_) (fun _ _ hx => hx.elim)
    obtain ⟨rfl, rfl⟩ := hp
    refine PW.iinc (v := nI (l + 1)) dX5_tick_56 rfl (nI_1 l) (by decide) rfl ?_
    refine PW.goto (tgt := 45) dX5_tick_59 (by decide) ?_
    exact ih (l + 1) _ (by omega) (hG.watch hl9) (by rw [← hr, waL])
set_option maxRecDepth 100000 in
set_option maxHeartbeats 4000000 in
theorem ti_loop {M : dM} {R : pM} {T : pT} {n0 K : Nat} {fin : dM} (hK : K < 1001) : ∀ (n s T9 : Nat) (N : dM) (w3 : Option Value), s + n = K → GK N → N 39 5 = nI T9 → T9 + n ≤ 1000000000 → tiL n N = fin → PW kX5_tick false n0 (fun v m9 => v = some (.int (fin 39 5)) ∧ m9 = SM M ++ (MM fin ++ R)) T 28 [some (.ref 44), some (.int (nI K)), some (.int (nI s)), w3] [] (SM M ++ (MM N ++ R)) 0 0 := by
  intro n
  induction n with
  | zero =>
    intro s T9 N w3 hs hG eT hT hr
    refine PW.iload_n (i := 2) dX5_tick_28 rfl rfl ?_
    refine PW.iload_n (i := 1) dX5_tick_29 rfl rfl ?_
    refine PW.icmp_ge (tgt := 68) dX5_tick_30 (by decide) (fun _ => ?_) (fun h30 => absurd (nI_le (a := K) (b := s) (by omega) (by omega)) h30)
    refine PW.aload_n (i := 0) dX5_tick_68 rfl rfl ?_
    refine PW.getf FX5_tick_87 dX5_tick_69 sm_mod rfl ?_
    exact PW.iret dX5_tick_72 rfl ⟨by rw [← hr]; rfl, by rw [← hr]; rfl⟩ (by decide) (by decide)
  | succ n ih =>
    intro s T9 N w3 hs hG eT hT hr
    refine PW.iload_n (i := 2) dX5_tick_28 rfl rfl ?_
    refine PW.iload_n (i := 1) dX5_tick_29 rfl rfl ?_
    refine PW.icmp_ge (tgt := 68) dX5_tick_30 (by decide) (fun h30 => absurd h30 (nI_ge (a := s) (b := K) (by omega) (by omega))) (fun _ => ?_)
    refine PW.aload_n (i := 0) dX5_tick_33 rfl rfl ?_
    refine PW.dup dX5_tick_34 rfl ?_
    refine PW.getf FX5_tick_87 dX5_tick_35 sm_mod rfl ?_
    refine PW.iconst (v := 1) dX5_tick_38 (by decide) ?_
    refine PW.iadd dX5_tick_39 ?_
    refine PW.putf FX5_tick_87 (Fw_5_1 _) dX5_tick_40 sm_mod (Nat.le_of_ble_eq_true rfl) (fun _ => rfl) (fun _ => rfl) pm_now ?_
    refine PW.iconst (v := 0) dX5_tick_43 (by decide) ?_
    refine PW.istore_n (i := 3) dX5_tick_44 rfl (by decide) rfl ?_
    obtain ⟨g1, g2, g3⟩ := hG.step eT (by omega)
    refine tw_loop (fin := waL 24 0 (up2 N 39 5 (N 39 5 + 1))) (fun w3 => ?_) 24 0 _ rfl g1 rfl
    refine PW.iinc (v := nI (s + 1)) dX5_tick_62 rfl (nI_1 s) (by decide) rfl ?_
    refine PW.goto (tgt := 28) dX5_tick_65 (by decide) ?_
    exact ih (s + 1) (T9 + 1) _ _ (by omega) g2 g3 (by omega) (by rw [← hr, tiL])
set_option maxRecDepth 100000 in
set_option maxHeartbeats 4000000 in
theorem c5_tick_ok {M N : dM} {R : pM} {K T9 : Nat} (hK : K < 1001) (hi : g_in (nI K) 1 1000 = true) (hG : GK (Z N)) (eT : Z N 39 5 = nI T9) (hT : T9 + K ≤ 1000000000) (l9 : Launch) : pMet l9 yX5_tick kX5_tick false [.ref 44, .int (nI K)] (SM M ++ (MM N ++ R)) (fun v m9 => v = some (.int (g_tick (Z N) (nI K) 39 5)) ∧ m9 = SM M ++ (MM (g_tick (Z N) (nI K)) ++ R)) (fun _ _ => False) := by
  refine pMet.of (by decide) rfl rfl rfl (by intro v hv; simp only [List.mem_cons, List.not_mem_nil, or_false] at hv; rcases hv with rfl | rfl <;> rfl) (Nat.le_of_ble_eq_true rfl) ?_
  show PW _ _ _ _ _ 0 [some (.ref 44), some (.int (nI K)), none, none] [] (SM M ++ (MM N ++ R)) 0 0
  refine PW.aload_n (i := 0) dX5_tick_0 rfl rfl ?_
  refine PW.iload_n (i := 1) dX5_tick_1 rfl rfl ?_
  refine PW.iconst (v := 1) dX5_tick_2 (by decide) ?_
  refine PW.sipush (v := 1000) dX5_tick_3 (by decide) ?_
  refine PW.callS (k := kX5_tick) (n := 3) (c5_in _ _ _) dX5_tick_6 gX5_tick_X5_in rfl hs_X5_in rfl ⟨by decide, by decide⟩ ⟨rfl, rfl⟩ (Nat.le_of_ble_eq_true rfl) ⟨by decide, by decide⟩ rfl (fun v m9 hp => ?_) (fun _ _ hx => hx.elim)
  obtain ⟨rfl, rfl⟩ := hp
  rw [hi]
  refine PW.if_ne (tgt := 16) dX5_tick_9 (by decide) (fun _ => ?_) (fun h9 => absurd h9 (by decide))
  refine PW.iconst (v := 0) dX5_tick_16 (by decide) ?_
  refine PW.iconst (v := 0) dX5_tick_17 (by decide) ?_
  refine PW.callV (k := kX5_tick) (n := 2) (c5_throwing false false) dX5_tick_18 gX5_tick_X5_throwing rfl hd_X5_throwing rfl ⟨by decide, by decide⟩ ⟨rfl, rfl⟩ (Nat.le_of_ble_eq_true rfl) ⟨by decide, by decide⟩ sm_mod (by decide) rfl rfl (fun v m9 hp => ?_) (fun _ _ hx => hx.elim)
  obtain ⟨rfl, rfl⟩ := hp
  rw [show up2 N 39 7 (thr false false) = Z N from rfl]
  refine PW.if_eq (tgt := 26) dX5_tick_21 (by decide) (fun _ => ?_) (fun h21 => absurd (by decide) h21)
  refine PW.iconst (v := 0) dX5_tick_26 (by decide) ?_
  refine PW.istore_n (i := 2) dX5_tick_27 rfl (by decide) rfl ?_
  exact ti_loop hK K 0 T9 (Z N) _ (by omega) hG eT hT (by rw [g_tick, nI_clamp (by omega)])
set_option maxRecDepth 100000 in
set_option maxHeartbeats 4000000 in
theorem c5_group_bad1 {M N : dM} {R : pM} (x y z : Int32) (hb : g_in x 0 3 = false) (l9 : Launch) : pMet l9 yX5_group kX5_group false [.ref 44, .int x, .int y, .int z] (SM M ++ (MM N ++ R)) (fun v m9 => v = some (.int (0)) ∧ m9 = SM M ++ (MM (up2 N 39 7 1) ++ R)) (fun _ _ => False) := by
  refine pMet.of (by decide) rfl rfl rfl (by intro v hv; simp only [List.mem_cons, List.not_mem_nil, or_false] at hv; rcases hv with rfl | rfl | rfl | rfl <;> rfl) (Nat.le_of_ble_eq_true rfl) ?_
  show PW _ _ _ _ _ 0 [some (.ref 44), some (.int x), some (.int y), some (.int z), none, none] [] (SM M ++ (MM N ++ R)) 0 0
  refine PW.iload_n (i := 1) dX5_group_0 rfl rfl ?_
  refine PW.iconst (v := 0) dX5_group_1 (by decide) ?_
  refine PW.iconst (v := 3) dX5_group_2 (by decide) ?_
  refine PW.callS (k := kX5_group) (n := 3) (c5_in _ _ _) dX5_group_3 gX5_group_X5_in rfl hs_X5_in rfl ⟨by decide, by decide⟩ ⟨rfl, rfl⟩ (Nat.le_of_ble_eq_true rfl) ⟨by decide, by decide⟩ rfl (fun v m9 hp => ?_) (fun _ _ hx => hx.elim)
  obtain ⟨rfl, rfl⟩ := hp
  rw [hb]
  refine PW.if_eq (tgt := 32) dX5_group_6 (by decide) (fun _ => ?_) (fun h6 => absurd (by decide) h6)
  refine PW.iconst (v := 1) dX5_group_32 (by decide) ?_
  refine PW.goto (tgt := 37) dX5_group_33 (by decide) ?_
  refine PW.istore dX5_group_37 (by decide) rfl ?_
  refine PW.iconst (v := 0) dX5_group_39 (by decide) ?_
  refine PW.istore dX5_group_40 (by decide) rfl ?_
  refine PW.iload dX5_group_42 rfl ?_
  refine PW.bipush (v := 6) dX5_group_44 (by decide) ?_
  refine PW.icmp_ge (tgt := 98) dX5_group_46 (by decide) (fun h46 => absurd h46 (by decide)) (fun _ => ?_)
  refine PW.iload dX5_group_49 rfl ?_
  refine PW.if_ne (tgt := 98) dX5_group_51 (by decide) (fun _ => ?_) (fun h51 => absurd h51 (by decide))
  refine PW.aload_n (i := 0) dX5_group_98 rfl rfl ?_
  refine PW.iload dX5_group_99 rfl ?_
  refine PW.iload dX5_group_101 rfl ?_
  refine PW.if_ne (tgt := 125) dX5_group_103 (by decide) (fun _ => ?_) (fun h103 => absurd h103 (by decide))
  refine PW.iconst (v := 0) dX5_group_125 (by decide) ?_
  refine PW.callV (k := kX5_group) (n := 2) (c5_throwing true false) dX5_group_126 gX5_group_X5_throwing rfl hd_X5_throwing rfl ⟨by decide, by decide⟩ ⟨rfl, rfl⟩ (Nat.le_of_ble_eq_true rfl) ⟨by decide, by decide⟩ sm_mod (by decide) rfl rfl (fun v m9 hp => ?_) (fun _ _ hx => hx.elim)
  obtain ⟨rfl, rfl⟩ := hp
  refine PW.if_eq (tgt := 134) dX5_group_129 (by decide) (fun h129 => absurd h129 (by decide)) (fun _ => ?_)
  refine PW.iconst (v := 0) dX5_group_132 (by decide) ?_
  exact PW.iret dX5_group_133 rfl ⟨rfl, rfl⟩ (by decide) (by decide)
set_option maxRecDepth 100000 in
set_option maxHeartbeats 4000000 in
theorem c5_group_bad2 {M N : dM} {R : pM} (x y z : Int32) (hx : g_in x 0 3 = true) (hb : g_in y (-1) 23 = false) (l9 : Launch) : pMet l9 yX5_group kX5_group false [.ref 44, .int x, .int y, .int z] (SM M ++ (MM N ++ R)) (fun v m9 => v = some (.int (0)) ∧ m9 = SM M ++ (MM (up2 N 39 7 1) ++ R)) (fun _ _ => False) := by
  refine pMet.of (by decide) rfl rfl rfl (by intro v hv; simp only [List.mem_cons, List.not_mem_nil, or_false] at hv; rcases hv with rfl | rfl | rfl | rfl <;> rfl) (Nat.le_of_ble_eq_true rfl) ?_
  show PW _ _ _ _ _ 0 [some (.ref 44), some (.int x), some (.int y), some (.int z), none, none] [] (SM M ++ (MM N ++ R)) 0 0
  refine PW.iload_n (i := 1) dX5_group_0 rfl rfl ?_
  refine PW.iconst (v := 0) dX5_group_1 (by decide) ?_
  refine PW.iconst (v := 3) dX5_group_2 (by decide) ?_
  refine PW.callS (k := kX5_group) (n := 3) (c5_in _ _ _) dX5_group_3 gX5_group_X5_in rfl hs_X5_in rfl ⟨by decide, by decide⟩ ⟨rfl, rfl⟩ (Nat.le_of_ble_eq_true rfl) ⟨by decide, by decide⟩ rfl (fun v m9 hp => ?_) (fun _ _ hx => hx.elim)
  obtain ⟨rfl, rfl⟩ := hp
  rw [hx]
  refine PW.if_eq (tgt := 32) dX5_group_6 (by decide) (fun h6 => absurd h6 (by decide)) (fun _ => ?_)
  refine PW.iload_n (i := 2) dX5_group_9 rfl rfl ?_
  refine PW.iconst (v := (-1)) dX5_group_10 (by decide) ?_
  refine PW.bipush (v := 23) dX5_group_11 (by decide) ?_
  refine PW.callS (k := kX5_group) (n := 3) (c5_in _ _ _) dX5_group_13 gX5_group_X5_in rfl hs_X5_in rfl ⟨by decide, by decide⟩ ⟨rfl, rfl⟩ (Nat.le_of_ble_eq_true rfl) ⟨by decide, by decide⟩ rfl (fun v m9 hp => ?_) (fun _ _ hx => hx.elim)
  obtain ⟨rfl, rfl⟩ := hp
  rw [hb]
  refine PW.if_eq (tgt := 32) dX5_group_16 (by decide) (fun _ => ?_) (fun h16 => absurd (by decide) h16)
  refine PW.iconst (v := 1) dX5_group_32 (by decide) ?_
  refine PW.goto (tgt := 37) dX5_group_33 (by decide) ?_
  refine PW.istore dX5_group_37 (by decide) rfl ?_
  refine PW.iconst (v := 0) dX5_group_39 (by decide) ?_
  refine PW.istore dX5_group_40 (by decide) rfl ?_
  refine PW.iload dX5_group_42 rfl ?_
  refine PW.bipush (v := 6) dX5_group_44 (by decide) ?_
  refine PW.icmp_ge (tgt := 98) dX5_group_46 (by decide) (fun h46 => absurd h46 (by decide)) (fun _ => ?_)
  refine PW.iload dX5_group_49 rfl ?_
  refine PW.if_ne (tgt := 98) dX5_group_51 (by decide) (fun _ => ?_) (fun h51 => absurd h51 (by decide))
  refine PW.aload_n (i := 0) dX5_group_98 rfl rfl ?_
  refine PW.iload dX5_group_99 rfl ?_
  refine PW.iload dX5_group_101 rfl ?_
  refine PW.if_ne (tgt := 125) dX5_group_103 (by decide) (fun _ => ?_) (fun h103 => absurd h103 (by decide))
  refine PW.iconst (v := 0) dX5_group_125 (by decide) ?_
  refine PW.callV (k := kX5_group) (n := 2) (c5_throwing true false) dX5_group_126 gX5_group_X5_throwing rfl hd_X5_throwing rfl ⟨by decide, by decide⟩ ⟨rfl, rfl⟩ (Nat.le_of_ble_eq_true rfl) ⟨by decide, by decide⟩ sm_mod (by decide) rfl rfl (fun v m9 hp => ?_) (fun _ _ hx => hx.elim)
  obtain ⟨rfl, rfl⟩ := hp
  refine PW.if_eq (tgt := 134) dX5_group_129 (by decide) (fun h129 => absurd h129 (by decide)) (fun _ => ?_)
  refine PW.iconst (v := 0) dX5_group_132 (by decide) ?_
  exact PW.iret dX5_group_133 rfl ⟨rfl, rfl⟩ (by decide) (by decide)
set_option maxRecDepth 100000 in
set_option maxHeartbeats 4000000 in
theorem c5_group_bad3 {M N : dM} {R : pM} {g : Nat} (hg : g < 4) (z : Int32) (hb : g_in z 0 3 = false) (l9 : Launch) : pMet l9 yX5_group kX5_group false [.ref 44, .int (nI g), .int (-1), .int z] (SM M ++ (MM N ++ R)) (fun v m9 => v = some (.int (0)) ∧ m9 = SM M ++ (MM (up2 N 39 7 1) ++ R)) (fun _ _ => False) := by
  refine pMet.of (by decide) rfl rfl rfl (by intro v hv; simp only [List.mem_cons, List.not_mem_nil, or_false] at hv; rcases hv with rfl | rfl | rfl | rfl <;> rfl) (Nat.le_of_ble_eq_true rfl) ?_
  show PW _ _ _ _ _ 0 [some (.ref 44), some (.int (nI g)), some (.int (-1)), some (.int z), none, none] [] (SM M ++ (MM N ++ R)) 0 0
  refine PW.iload_n (i := 1) dX5_group_0 rfl rfl ?_
  refine PW.iconst (v := 0) dX5_group_1 (by decide) ?_
  refine PW.iconst (v := 3) dX5_group_2 (by decide) ?_
  refine PW.callS (k := kX5_group) (n := 3) (c5_in _ _ _) dX5_group_3 gX5_group_X5_in rfl hs_X5_in rfl ⟨by decide, by decide⟩ ⟨rfl, rfl⟩ (Nat.le_of_ble_eq_true rfl) ⟨by decide, by decide⟩ rfl (fun v m9 hp => ?_) (fun _ _ hx => hx.elim)
  obtain ⟨rfl, rfl⟩ := hp
  rw [in3 hg]
  refine PW.if_eq (tgt := 32) dX5_group_6 (by decide) (fun h6 => absurd h6 (by decide)) (fun _ => ?_)
  refine PW.iload_n (i := 2) dX5_group_9 rfl rfl ?_
  refine PW.iconst (v := (-1)) dX5_group_10 (by decide) ?_
  refine PW.bipush (v := 23) dX5_group_11 (by decide) ?_
  refine PW.callS (k := kX5_group) (n := 3) (c5_in _ _ _) dX5_group_13 gX5_group_X5_in rfl hs_X5_in rfl ⟨by decide, by decide⟩ ⟨rfl, rfl⟩ (Nat.le_of_ble_eq_true rfl) ⟨by decide, by decide⟩ rfl (fun v m9 hp => ?_) (fun _ _ hx => hx.elim)
  obtain ⟨rfl, rfl⟩ := hp
  rw [(by decide : g_in (-1) (-1) 23 = true)]
  refine PW.if_eq (tgt := 32) dX5_group_16 (by decide) (fun h16 => absurd h16 (by decide)) (fun _ => ?_)
  refine PW.iload_n (i := 2) dX5_group_19 rfl rfl ?_
  refine PW.if_ge (tgt := 36) dX5_group_20 (by decide) (fun h20 => absurd h20 (by decide)) (fun _ => ?_)
  refine PW.iload_n (i := 3) dX5_group_23 rfl rfl ?_
  refine PW.iconst (v := 0) dX5_group_24 (by decide) ?_
  refine PW.iconst (v := 3) dX5_group_25 (by decide) ?_
  refine PW.callS (k := kX5_group) (n := 3) (c5_in _ _ _) dX5_group_26 gX5_group_X5_in rfl hs_X5_in rfl ⟨by decide, by decide⟩ ⟨rfl, rfl⟩ (Nat.le_of_ble_eq_true rfl) ⟨by decide, by decide⟩ rfl (fun v m9 hp => ?_) (fun _ _ hx => hx.elim)
  obtain ⟨rfl, rfl⟩ := hp
  rw [hb]
  refine PW.if_ne (tgt := 36) dX5_group_29 (by decide) (fun h29 => absurd h29 (by decide)) (fun _ => ?_)
  refine PW.iconst (v := 1) dX5_group_32 (by decide) ?_
  refine PW.goto (tgt := 37) dX5_group_33 (by decide) ?_
  refine PW.istore dX5_group_37 (by decide) rfl ?_
  refine PW.iconst (v := 0) dX5_group_39 (by decide) ?_
  refine PW.istore dX5_group_40 (by decide) rfl ?_
  refine PW.iload dX5_group_42 rfl ?_
  refine PW.bipush (v := 6) dX5_group_44 (by decide) ?_
  refine PW.icmp_ge (tgt := 98) dX5_group_46 (by decide) (fun h46 => absurd h46 (by decide)) (fun _ => ?_)
  refine PW.iload dX5_group_49 rfl ?_
  refine PW.if_ne (tgt := 98) dX5_group_51 (by decide) (fun _ => ?_) (fun h51 => absurd h51 (by decide))
  refine PW.aload_n (i := 0) dX5_group_98 rfl rfl ?_
  refine PW.iload dX5_group_99 rfl ?_
  refine PW.iload dX5_group_101 rfl ?_
  refine PW.if_ne (tgt := 125) dX5_group_103 (by decide) (fun _ => ?_) (fun h103 => absurd h103 (by decide))
  refine PW.iconst (v := 0) dX5_group_125 (by decide) ?_
  refine PW.callV (k := kX5_group) (n := 2) (c5_throwing true false) dX5_group_126 gX5_group_X5_throwing rfl hd_X5_throwing rfl ⟨by decide, by decide⟩ ⟨rfl, rfl⟩ (Nat.le_of_ble_eq_true rfl) ⟨by decide, by decide⟩ sm_mod (by decide) rfl rfl (fun v m9 hp => ?_) (fun _ _ hx => hx.elim)
  obtain ⟨rfl, rfl⟩ := hp
  refine PW.if_eq (tgt := 134) dX5_group_129 (by decide) (fun h129 => absurd h129 (by decide)) (fun _ => ?_)
  refine PW.iconst (v := 0) dX5_group_132 (by decide) ?_
  exact PW.iret dX5_group_133 rfl ⟨rfl, rfl⟩ (by decide) (by decide)
set_option maxRecDepth 100000 in
set_option maxHeartbeats 4000000 in
theorem c5_group_new {M N : dM} {R : pM} {g : Nat} (hg : g < 4) (z : Int32) (hz : g_in z 0 3 = true) (l9 : Launch) : pMet l9 yX5_group kX5_group false [.ref 44, .int (nI g), .int (-1), .int z] (SM M ++ (MM N ++ R)) (fun v m9 => v = some (.int (0)) ∧ m9 = SM M ++ (MM (f_restart (Z N) g z) ++ R)) (fun _ _ => False) := by
  refine pMet.of (by decide) rfl rfl rfl (by intro v hv; simp only [List.mem_cons, List.not_mem_nil, or_false] at hv; rcases hv with rfl | rfl | rfl | rfl <;> rfl) (Nat.le_of_ble_eq_true rfl) ?_
  show PW _ _ _ _ _ 0 [some (.ref 44), some (.int (nI g)), some (.int (-1)), some (.int z), none, none] [] (SM M ++ (MM N ++ R)) 0 0
  refine PW.iload_n (i := 1) dX5_group_0 rfl rfl ?_
  refine PW.iconst (v := 0) dX5_group_1 (by decide) ?_
  refine PW.iconst (v := 3) dX5_group_2 (by decide) ?_
  refine PW.callS (k := kX5_group) (n := 3) (c5_in _ _ _) dX5_group_3 gX5_group_X5_in rfl hs_X5_in rfl ⟨by decide, by decide⟩ ⟨rfl, rfl⟩ (Nat.le_of_ble_eq_true rfl) ⟨by decide, by decide⟩ rfl (fun v m9 hp => ?_) (fun _ _ hx => hx.elim)
  obtain ⟨rfl, rfl⟩ := hp
  rw [in3 hg]
  refine PW.if_eq (tgt := 32) dX5_group_6 (by decide) (fun h6 => absurd h6 (by decide)) (fun _ => ?_)
  refine PW.iload_n (i := 2) dX5_group_9 rfl rfl ?_
  refine PW.iconst (v := (-1)) dX5_group_10 (by decide) ?_
  refine PW.bipush (v := 23) dX5_group_11 (by decide) ?_
  refine PW.callS (k := kX5_group) (n := 3) (c5_in _ _ _) dX5_group_13 gX5_group_X5_in rfl hs_X5_in rfl ⟨by decide, by decide⟩ ⟨rfl, rfl⟩ (Nat.le_of_ble_eq_true rfl) ⟨by decide, by decide⟩ rfl (fun v m9 hp => ?_) (fun _ _ hx => hx.elim)
  obtain ⟨rfl, rfl⟩ := hp
  rw [(by decide : g_in (-1) (-1) 23 = true)]
  refine PW.if_eq (tgt := 32) dX5_group_16 (by decide) (fun h16 => absurd h16 (by decide)) (fun _ => ?_)
  refine PW.iload_n (i := 2) dX5_group_19 rfl rfl ?_
  refine PW.if_ge (tgt := 36) dX5_group_20 (by decide) (fun h20 => absurd h20 (by decide)) (fun _ => ?_)
  refine PW.iload_n (i := 3) dX5_group_23 rfl rfl ?_
  refine PW.iconst (v := 0) dX5_group_24 (by decide) ?_
  refine PW.iconst (v := 3) dX5_group_25 (by decide) ?_
  refine PW.callS (k := kX5_group) (n := 3) (c5_in _ _ _) dX5_group_26 gX5_group_X5_in rfl hs_X5_in rfl ⟨by decide, by decide⟩ ⟨rfl, rfl⟩ (Nat.le_of_ble_eq_true rfl) ⟨by decide, by decide⟩ rfl (fun v m9 hp => ?_) (fun _ _ hx => hx.elim)
  obtain ⟨rfl, rfl⟩ := hp
  rw [hz]
  refine PW.if_ne (tgt := 36) dX5_group_29 (by decide) (fun _ => ?_) (fun h29 => absurd h29 (by decide))
  refine PW.iconst (v := 0) dX5_group_36 (by decide) ?_
  refine PW.istore dX5_group_37 (by decide) rfl ?_
  refine PW.iconst (v := 0) dX5_group_39 (by decide) ?_
  refine PW.istore dX5_group_40 (by decide) rfl ?_
  refine PW.iload dX5_group_42 rfl ?_
  refine PW.bipush (v := 6) dX5_group_44 (by decide) ?_
  refine PW.icmp_ge (tgt := 98) dX5_group_46 (by decide) (fun h46 => absurd h46 (by decide)) (fun _ => ?_)
  refine PW.iload dX5_group_49 rfl ?_
  refine PW.if_ne (tgt := 98) dX5_group_51 (by decide) (fun h51 => absurd h51 (by decide)) (fun _ => ?_)
  refine PW.iload_n (i := 2) dX5_group_54 rfl rfl ?_
  refine PW.if_lt (tgt := 98) dX5_group_55 (by decide) (fun _ => ?_) (fun h55 => absurd (by decide) h55)
  refine PW.aload_n (i := 0) dX5_group_98 rfl rfl ?_
  refine PW.iload dX5_group_99 rfl ?_
  refine PW.iload dX5_group_101 rfl ?_
  refine PW.if_ne (tgt := 125) dX5_group_103 (by decide) (fun h103 => absurd h103 (by decide)) (fun _ => ?_)
  refine PW.iload_n (i := 2) dX5_group_106 rfl rfl ?_
  refine PW.if_lt (tgt := 125) dX5_group_107 (by decide) (fun _ => ?_) (fun h107 => absurd (by decide) h107)
  refine PW.iconst (v := 0) dX5_group_125 (by decide) ?_
  refine PW.callV (k := kX5_group) (n := 2) (c5_throwing false false) dX5_group_126 gX5_group_X5_throwing rfl hd_X5_throwing rfl ⟨by decide, by decide⟩ ⟨rfl, rfl⟩ (Nat.le_of_ble_eq_true rfl) ⟨by decide, by decide⟩ sm_mod (by decide) rfl rfl (fun v m9 hp => ?_) (fun _ _ hx => hx.elim)
  obtain ⟨rfl, rfl⟩ := hp
  rw [show up2 N 39 7 (thr false false) = Z N from rfl]
  refine PW.if_eq (tgt := 134) dX5_group_129 (by decide) (fun _ => ?_) (fun h129 => absurd (by decide) h129)
  refine PW.iload_n (i := 2) dX5_group_134 rfl rfl ?_
  refine PW.if_ge (tgt := 162) dX5_group_135 (by decide) (fun h135 => absurd h135 (by decide)) (fun _ => ?_)
  refine PW.aload_n (i := 0) dX5_group_138 rfl rfl ?_
  refine PW.getf FX5_group_59 dX5_group_139 sm_mod rfl ?_
  refine PW.iload_n (i := 1) dX5_group_142 rfl rfl ?_
  refine PW.iconst (v := 0) dX5_group_143 (by decide) ?_
  refine PW.iast dX5_group_144 ma_many rfl (Nat.lt_trans hg (by decide)) (by rw [maF_len]; exact hg)  (pm_many hg) ?_
  refine PW.aload_n (i := 0) dX5_group_145 rfl rfl ?_
  refine PW.getf FX5_group_62 dX5_group_146 sm_mod rfl ?_
  refine PW.iload_n (i := 1) dX5_group_149 rfl rfl ?_
  refine PW.iload_n (i := 3) dX5_group_150 rfl rfl ?_
  refine PW.iast dX5_group_151 ma_orders rfl (Nat.lt_trans hg (by decide)) (by rw [maF_len]; exact hg)  (pm_orders hg) ?_
  refine PW.aload_n (i := 0) dX5_group_152 rfl rfl ?_
  refine PW.getf FX5_group_65 dX5_group_153 sm_mod rfl ?_
  refine PW.iload_n (i := 1) dX5_group_156 rfl rfl ?_
  refine PW.iconst (v := (-1)) dX5_group_157 (by decide) ?_
  refine PW.iast dX5_group_158 ma_taken rfl (Nat.lt_trans hg (by decide)) (by rw [maF_len]; exact hg)  (pm_taken hg) ?_
  refine PW.goto (tgt := 189) dX5_group_159 (by decide) ?_
  refine PW.aload_n (i := 0) dX5_group_189 rfl rfl ?_
  refine PW.getf FX5_group_59 dX5_group_190 sm_mod rfl ?_
  refine PW.iload_n (i := 1) dX5_group_193 rfl rfl ?_
  refine PW.iald dX5_group_194 ma_many rfl (Nat.lt_trans hg (by decide)) (mg_many hg) ?_
  exact PW.iret dX5_group_195 rfl ⟨by show some (Value.int (f_restart (Z N) g z (28 + g) 1)) = _; unfold f_restart; rw [up2_j (by decide), up2_j (by decide), up2_s], rfl⟩ (by decide) (by decide)
theorem hasL_iff (p : Nat → Int32) (x : Int32) : ∀ (n s : Nat), hasL p x n s = true ↔ ∃ i, s ≤ i ∧ i < s + n ∧ p i = x
  | 0, s => by rw [hasL]; exact ⟨fun q => absurd q (by decide), fun ⟨i, a, b, _⟩ => by omega⟩
  | n + 1, s => by
    rw [hasL]
    by_cases e : p s = x
    · rw [if_pos e]; exact ⟨fun _ => ⟨s, by omega, by omega, e⟩, fun _ => rfl⟩
    · rw [if_neg e, hasL_iff p x n (s + 1)]
      exact ⟨fun ⟨i, a, b, c⟩ => ⟨i, by omega, by omega, c⟩, fun ⟨i, a, b, c⟩ => ⟨i, by
        rcases Nat.lt_or_ge s i with q | q
        · omega
        · exact absurd (show p s = x by rw [show s = i by omega]; exact c) e, by omega, c⟩⟩
theorem inM {l : Nat} (h : l < 24) : g_in (nI l) (-1) 23 = true := (in_iff (b' := 24) (by decide)).mpr ⟨fun q => nI_pos (by omega) (Int32.lt_trans q (by decide)), nI_ge (b := 24) h (by decide)⟩
set_option maxRecDepth 100000 in
set_option maxHeartbeats 4000000 in
theorem gb_loop {M N : dM} {R : pM} {P : pP} {T : pT} {n0 g l : Nat} {z : Int32} (hg : g < 4) (hl : l < 24) (eN : N (28 + g) 1 = nI (grN N g)) (h6 : grN N g ≤ 6) (k1 : hasG N g (nI l) = true → ∀ w5 : Option Value, PW kX5_group false n0 P T 98 [some (.ref 44), some (.int (nI g)), some (.int (nI l)), some (.int z), some (.int 1), w5] [] (SM M ++ (MM N ++ R)) 0 0) (k0 : hasG N g (nI l) = false → ∀ w5 : Option Value, PW kX5_group false n0 P T 98 [some (.ref 44), some (.int (nI g)), some (.int (nI l)), some (.int z), some (.int 0), w5] [] (SM M ++ (MM N ++ R)) 0 0) : ∀ (n s : Nat), s + n = 6 → (∀ i, i < s → i < grN N g → ¬ N (32 + g) i = nI l) → PW kX5_group false n0 P T 42 [some (.ref 44), some (.int (nI g)), some (.int (nI l)), some (.int z), some (.int 0), some (.int (nI s))] [] (SM M ++ (MM N ++ R)) 0 0 := by
  intro n
  induction n with
  | zero =>
    intro s hs hn
    refine PW.iload dX5_group_42 rfl ?_
    refine PW.bipush (v := 6) dX5_group_44 (by decide) ?_
    refine PW.icmp_ge (tgt := 98) dX5_group_46 (by decide) (fun _ => ?_) (fun h46 => absurd (nI_le (a := 6) (b := s) (by omega) (by omega)) h46)
    exact k0 (Bool.eq_false_iff.mpr (fun q => by
      obtain ⟨i, -, b, c⟩ := (hasL_iff _ _ _ _).mp q
      exact hn i (by omega) (by omega) c)) _
  | succ n ih =>
    intro s hs hn
    refine PW.iload dX5_group_42 rfl ?_
    refine PW.bipush (v := 6) dX5_group_44 (by decide) ?_
    refine PW.icmp_ge (tgt := 98) dX5_group_46 (by decide) (fun h46 => absurd h46 (nI_ge (a := s) (b := 6) (by omega) (by decide))) (fun _ => ?_)
    refine PW.iload dX5_group_49 rfl ?_
    refine PW.if_ne (tgt := 98) dX5_group_51 (by decide) (fun h51 => absurd h51 (by decide)) (fun _ => ?_)
    refine PW.iload_n (i := 2) dX5_group_54 rfl rfl ?_
    refine PW.if_lt (tgt := 98) dX5_group_55 (by decide) (fun h55 => absurd h55 (nI_pos (by omega))) (fun _ => ?_)
    refine PW.iload dX5_group_58 rfl ?_
    refine PW.aload_n (i := 0) dX5_group_60 rfl rfl ?_
    refine PW.getf FX5_group_59 dX5_group_61 sm_mod rfl ?_
    refine PW.iload_n (i := 1) dX5_group_64 rfl rfl ?_
    refine PW.iald dX5_group_65 ma_many rfl (Nat.lt_trans hg (by decide)) (mg_many hg) ?_
    rw [eN]
    refine PW.icmp_ge (tgt := 89) dX5_group_66 (by decide) (fun h66 => ?_) (fun h66 => ?_)
    · refine PW.iconst (v := 0) dX5_group_89 (by decide) ?_
      refine PW.istore dX5_group_90 (by decide) rfl ?_
      refine PW.iinc (v := nI (s + 1)) dX5_group_92 rfl (nI_1 s) (by decide) rfl ?_
      refine PW.goto (tgt := 42) dX5_group_95 (by decide) ?_
      exact ih (s + 1) (by omega) (fun i i1 i2 e => by
        rcases Nat.lt_or_ge i s with q | q
        · exact hn i q i2 e
        · have : i = s := by omega
          subst this
          exact absurd (nI_lt i2 (by omega)) (Int32.not_lt.mpr h66))
    · refine PW.aload_n (i := 0) dX5_group_69 rfl rfl ?_
      refine PW.getf FX5_group_56 dX5_group_70 sm_mod rfl ?_
      refine PW.bipush (v := 6) dX5_group_73 (by decide) ?_
      refine PW.iload_n (i := 1) dX5_group_75 rfl rfl ?_
      refine PW.imul dX5_group_76 ?_
      refine PW.iload dX5_group_77 rfl ?_
      refine PW.iadd dX5_group_79 ?_
      refine PW.iald dX5_group_80 ma_members (ix6 g s) (by omega) (mg_members hg (by omega)) ?_
      refine PW.iload_n (i := 2) dX5_group_81 rfl rfl ?_
      refine PW.icmp_ne (tgt := 89) dX5_group_82 (by decide) (fun h82 => ?_) (fun h82 => ?_)
      · refine PW.iconst (v := 0) dX5_group_89 (by decide) ?_
        refine PW.istore dX5_group_90 (by decide) rfl ?_
        refine PW.iinc (v := nI (s + 1)) dX5_group_92 rfl (nI_1 s) (by decide) rfl ?_
        refine PW.goto (tgt := 42) dX5_group_95 (by decide) ?_
        exact ih (s + 1) (by omega) (fun i i1 i2 e => by
          rcases Nat.lt_or_ge i s with q | q
          · exact hn i q i2 e
          · have : i = s := by omega
            subst this
            exact h82 e)
      · refine PW.iconst (v := 1) dX5_group_85 (by decide) ?_
        refine PW.goto (tgt := 90) dX5_group_86 (by decide) ?_
        refine PW.istore dX5_group_90 (by decide) rfl ?_
        refine PW.iinc (v := nI (s + 1)) dX5_group_92 rfl (nI_1 s) (by decide) rfl ?_
        refine PW.goto (tgt := 42) dX5_group_95 (by decide) ?_
        refine PW.iload dX5_group_42 rfl ?_
        refine PW.bipush (v := 6) dX5_group_44 (by decide) ?_
        refine PW.icmp_ge (tgt := 98) dX5_group_46 (by decide) (fun h46 => ?_) (fun h46 => ?_)
        · exact k1 ((hasL_iff _ _ _ _).mpr ⟨s, by omega, by
            rcases Nat.lt_or_ge s (grN N g) with q | q
            · omega
            · exact absurd (nI_le q (by omega)) h66, h82⟩) _
        · refine PW.iload dX5_group_49 rfl ?_
          refine PW.if_ne (tgt := 98) dX5_group_51 (by decide) (fun _ => ?_) (fun h51 => absurd h51 (by decide))
          exact k1 ((hasL_iff _ _ _ _).mpr ⟨s, by omega, by
            rcases Nat.lt_or_ge s (grN N g) with q | q
            · omega
            · exact absurd (nI_le q (by omega)) h66, h82⟩) _
set_option maxRecDepth 100000 in
set_option maxHeartbeats 4000000 in
theorem c5_group_bad4 {M N : dM} {R : pM} {g l : Nat} (hg : g < 4) (hl : l < 24) (z : Int32) (eN : N (28 + g) 1 = nI (grN N g)) (h6 : grN N g ≤ 6) (hh : hasG N g (nI l) = true) (l9 : Launch) : pMet l9 yX5_group kX5_group false [.ref 44, .int (nI g), .int (nI l), .int z] (SM M ++ (MM N ++ R)) (fun v m9 => v = some (.int (0)) ∧ m9 = SM M ++ (MM (up2 N 39 7 1) ++ R)) (fun _ _ => False) := by
  refine pMet.of (by decide) rfl rfl rfl (by intro v hv; simp only [List.mem_cons, List.not_mem_nil, or_false] at hv; rcases hv with rfl | rfl | rfl | rfl <;> rfl) (Nat.le_of_ble_eq_true rfl) ?_
  show PW _ _ _ _ _ 0 [some (.ref 44), some (.int (nI g)), some (.int (nI l)), some (.int z), none, none] [] (SM M ++ (MM N ++ R)) 0 0
  refine PW.iload_n (i := 1) dX5_group_0 rfl rfl ?_
  refine PW.iconst (v := 0) dX5_group_1 (by decide) ?_
  refine PW.iconst (v := 3) dX5_group_2 (by decide) ?_
  refine PW.callS (k := kX5_group) (n := 3) (c5_in _ _ _) dX5_group_3 gX5_group_X5_in rfl hs_X5_in rfl ⟨by decide, by decide⟩ ⟨rfl, rfl⟩ (Nat.le_of_ble_eq_true rfl) ⟨by decide, by decide⟩ rfl (fun v m9 hp => ?_) (fun _ _ hx => hx.elim)
  obtain ⟨rfl, rfl⟩ := hp
  rw [in3 hg]
  refine PW.if_eq (tgt := 32) dX5_group_6 (by decide) (fun h6 => absurd h6 (by decide)) (fun _ => ?_)
  refine PW.iload_n (i := 2) dX5_group_9 rfl rfl ?_
  refine PW.iconst (v := (-1)) dX5_group_10 (by decide) ?_
  refine PW.bipush (v := 23) dX5_group_11 (by decide) ?_
  refine PW.callS (k := kX5_group) (n := 3) (c5_in _ _ _) dX5_group_13 gX5_group_X5_in rfl hs_X5_in rfl ⟨by decide, by decide⟩ ⟨rfl, rfl⟩ (Nat.le_of_ble_eq_true rfl) ⟨by decide, by decide⟩ rfl (fun v m9 hp => ?_) (fun _ _ hx => hx.elim)
  obtain ⟨rfl, rfl⟩ := hp
  rw [inM hl]
  refine PW.if_eq (tgt := 32) dX5_group_16 (by decide) (fun h16 => absurd h16 (by decide)) (fun _ => ?_)
  refine PW.iload_n (i := 2) dX5_group_19 rfl rfl ?_
  refine PW.if_ge (tgt := 36) dX5_group_20 (by decide) (fun _ => ?_) (fun h20 => absurd (Int32.not_lt.mp (nI_pos (by omega))) h20)
  refine PW.iconst (v := 0) dX5_group_36 (by decide) ?_
  refine PW.istore dX5_group_37 (by decide) rfl ?_
  refine PW.iconst (v := 0) dX5_group_39 (by decide) ?_
  refine PW.istore dX5_group_40 (by decide) rfl ?_
  refine gb_loop (n0 := _) hg hl eN h6 (fun q w5 => ?_) (fun q w5 => ?_) 6 0 rfl (fun i h => absurd h (by omega))
  · skip
    refine PW.aload_n (i := 0) dX5_group_98 rfl rfl ?_
    refine PW.iload dX5_group_99 rfl ?_
    refine PW.iload dX5_group_101 rfl ?_
    refine PW.if_ne (tgt := 125) dX5_group_103 (by decide) (fun _ => ?_) (fun h103 => absurd h103 (by decide))
    refine PW.iconst (v := 0) dX5_group_125 (by decide) ?_
    refine PW.callV (k := kX5_group) (n := 2) (c5_throwing true false) dX5_group_126 gX5_group_X5_throwing rfl hd_X5_throwing rfl ⟨by decide, by decide⟩ ⟨rfl, rfl⟩ (Nat.le_of_ble_eq_true rfl) ⟨by decide, by decide⟩ sm_mod (by decide) rfl rfl (fun v m9 hp => ?_) (fun _ _ hx => hx.elim)
    obtain ⟨rfl, rfl⟩ := hp
    refine PW.if_eq (tgt := 134) dX5_group_129 (by decide) (fun h129 => absurd h129 (by decide)) (fun _ => ?_)
    refine PW.iconst (v := 0) dX5_group_132 (by decide) ?_
    exact PW.iret dX5_group_133 rfl ⟨rfl, rfl⟩ (by decide) (by decide)
  · rw [hh] at q; cases q
set_option maxRecDepth 100000 in
set_option maxHeartbeats 4000000 in
theorem c5_group_two {M N : dM} {R : pM} {g l : Nat} (hg : g < 4) (hl : l < 24) (z : Int32) (eN : N (28 + g) 1 = nI (grN N g)) (h6 : grN N g ≤ 6) (hh : hasG N g (nI l) = false) (h9 : N (28 + g) 1 = 6) (l9 : Launch) : pMet l9 yX5_group kX5_group false [.ref 44, .int (nI g), .int (nI l), .int z] (SM M ++ (MM N ++ R)) (fun v m9 => v = some (.int (0)) ∧ m9 = SM M ++ (MM (up2 N 39 7 2) ++ R)) (fun _ _ => False) := by
  refine pMet.of (by decide) rfl rfl rfl (by intro v hv; simp only [List.mem_cons, List.not_mem_nil, or_false] at hv; rcases hv with rfl | rfl | rfl | rfl <;> rfl) (Nat.le_of_ble_eq_true rfl) ?_
  show PW _ _ _ _ _ 0 [some (.ref 44), some (.int (nI g)), some (.int (nI l)), some (.int z), none, none] [] (SM M ++ (MM N ++ R)) 0 0
  refine PW.iload_n (i := 1) dX5_group_0 rfl rfl ?_
  refine PW.iconst (v := 0) dX5_group_1 (by decide) ?_
  refine PW.iconst (v := 3) dX5_group_2 (by decide) ?_
  refine PW.callS (k := kX5_group) (n := 3) (c5_in _ _ _) dX5_group_3 gX5_group_X5_in rfl hs_X5_in rfl ⟨by decide, by decide⟩ ⟨rfl, rfl⟩ (Nat.le_of_ble_eq_true rfl) ⟨by decide, by decide⟩ rfl (fun v m9 hp => ?_) (fun _ _ hx => hx.elim)
  obtain ⟨rfl, rfl⟩ := hp
  rw [in3 hg]
  refine PW.if_eq (tgt := 32) dX5_group_6 (by decide) (fun h6 => absurd h6 (by decide)) (fun _ => ?_)
  refine PW.iload_n (i := 2) dX5_group_9 rfl rfl ?_
  refine PW.iconst (v := (-1)) dX5_group_10 (by decide) ?_
  refine PW.bipush (v := 23) dX5_group_11 (by decide) ?_
  refine PW.callS (k := kX5_group) (n := 3) (c5_in _ _ _) dX5_group_13 gX5_group_X5_in rfl hs_X5_in rfl ⟨by decide, by decide⟩ ⟨rfl, rfl⟩ (Nat.le_of_ble_eq_true rfl) ⟨by decide, by decide⟩ rfl (fun v m9 hp => ?_) (fun _ _ hx => hx.elim)
  obtain ⟨rfl, rfl⟩ := hp
  rw [inM hl]
  refine PW.if_eq (tgt := 32) dX5_group_16 (by decide) (fun h16 => absurd h16 (by decide)) (fun _ => ?_)
  refine PW.iload_n (i := 2) dX5_group_19 rfl rfl ?_
  refine PW.if_ge (tgt := 36) dX5_group_20 (by decide) (fun _ => ?_) (fun h20 => absurd (Int32.not_lt.mp (nI_pos (by omega))) h20)
  refine PW.iconst (v := 0) dX5_group_36 (by decide) ?_
  refine PW.istore dX5_group_37 (by decide) rfl ?_
  refine PW.iconst (v := 0) dX5_group_39 (by decide) ?_
  refine PW.istore dX5_group_40 (by decide) rfl ?_
  refine gb_loop (n0 := _) hg hl eN h6 (fun q w5 => ?_) (fun q w5 => ?_) 6 0 rfl (fun i h => absurd h (by omega))
  · rw [hh] at q; cases q
  · skip
    refine PW.aload_n (i := 0) dX5_group_98 rfl rfl ?_
    refine PW.iload dX5_group_99 rfl ?_
    refine PW.iload dX5_group_101 rfl ?_
    refine PW.if_ne (tgt := 125) dX5_group_103 (by decide) (fun h103 => absurd h103 (by decide)) (fun _ => ?_)
    refine PW.iload_n (i := 2) dX5_group_106 rfl rfl ?_
    refine PW.if_lt (tgt := 125) dX5_group_107 (by decide) (fun h107 => absurd h107 (nI_pos (by omega))) (fun _ => ?_)
    refine PW.aload_n (i := 0) dX5_group_110 rfl rfl ?_
    refine PW.getf FX5_group_59 dX5_group_111 sm_mod rfl ?_
    refine PW.iload_n (i := 1) dX5_group_114 rfl rfl ?_
    refine PW.iald dX5_group_115 ma_many rfl (Nat.lt_trans hg (by decide)) (mg_many hg) ?_
    refine PW.bipush (v := 6) dX5_group_116 (by decide) ?_
    refine PW.icmp_ne (tgt := 125) dX5_group_118 (by decide) (fun h118 => absurd h118 (fun q => q h9)) (fun _ => ?_)
    refine PW.iconst (v := 1) dX5_group_121 (by decide) ?_
    refine PW.goto (tgt := 126) dX5_group_122 (by decide) ?_
    refine PW.callV (k := kX5_group) (n := 2) (c5_throwing false true) dX5_group_126 gX5_group_X5_throwing rfl hd_X5_throwing rfl ⟨by decide, by decide⟩ ⟨rfl, rfl⟩ (Nat.le_of_ble_eq_true rfl) ⟨by decide, by decide⟩ sm_mod (by decide) rfl rfl (fun v m9 hp => ?_) (fun _ _ hx => hx.elim)
    obtain ⟨rfl, rfl⟩ := hp
    refine PW.if_eq (tgt := 134) dX5_group_129 (by decide) (fun h129 => absurd h129 (by decide)) (fun _ => ?_)
    refine PW.iconst (v := 0) dX5_group_132 (by decide) ?_
    exact PW.iret dX5_group_133 rfl ⟨rfl, rfl⟩ (by decide) (by decide)
set_option maxRecDepth 100000 in
set_option maxHeartbeats 4000000 in
theorem c5_group_add {M N : dM} {R : pM} {g l : Nat} (hg : g < 4) (hl : l < 24) (z : Int32) (eN : N (28 + g) 1 = nI (grN N g)) (h6 : grN N g ≤ 6) (hh : hasG N g (nI l) = false) (h9 : ¬ N (28 + g) 1 = 6) (l9 : Launch) : pMet l9 yX5_group kX5_group false [.ref 44, .int (nI g), .int (nI l), .int z] (SM M ++ (MM N ++ R)) (fun v m9 => v = some (.int (f_add (Z N) g (grN N g) (nI l) (28 + g) 1)) ∧ m9 = SM M ++ (MM (f_add (Z N) g (grN N g) (nI l)) ++ R)) (fun _ _ => False) := by
  refine pMet.of (by decide) rfl rfl rfl (by intro v hv; simp only [List.mem_cons, List.not_mem_nil, or_false] at hv; rcases hv with rfl | rfl | rfl | rfl <;> rfl) (Nat.le_of_ble_eq_true rfl) ?_
  show PW _ _ _ _ _ 0 [some (.ref 44), some (.int (nI g)), some (.int (nI l)), some (.int z), none, none] [] (SM M ++ (MM N ++ R)) 0 0
  refine PW.iload_n (i := 1) dX5_group_0 rfl rfl ?_
  refine PW.iconst (v := 0) dX5_group_1 (by decide) ?_
  refine PW.iconst (v := 3) dX5_group_2 (by decide) ?_
  refine PW.callS (k := kX5_group) (n := 3) (c5_in _ _ _) dX5_group_3 gX5_group_X5_in rfl hs_X5_in rfl ⟨by decide, by decide⟩ ⟨rfl, rfl⟩ (Nat.le_of_ble_eq_true rfl) ⟨by decide, by decide⟩ rfl (fun v m9 hp => ?_) (fun _ _ hx => hx.elim)
  obtain ⟨rfl, rfl⟩ := hp
  rw [in3 hg]
  refine PW.if_eq (tgt := 32) dX5_group_6 (by decide) (fun h6 => absurd h6 (by decide)) (fun _ => ?_)
  refine PW.iload_n (i := 2) dX5_group_9 rfl rfl ?_
  refine PW.iconst (v := (-1)) dX5_group_10 (by decide) ?_
  refine PW.bipush (v := 23) dX5_group_11 (by decide) ?_
  refine PW.callS (k := kX5_group) (n := 3) (c5_in _ _ _) dX5_group_13 gX5_group_X5_in rfl hs_X5_in rfl ⟨by decide, by decide⟩ ⟨rfl, rfl⟩ (Nat.le_of_ble_eq_true rfl) ⟨by decide, by decide⟩ rfl (fun v m9 hp => ?_) (fun _ _ hx => hx.elim)
  obtain ⟨rfl, rfl⟩ := hp
  rw [inM hl]
  refine PW.if_eq (tgt := 32) dX5_group_16 (by decide) (fun h16 => absurd h16 (by decide)) (fun _ => ?_)
  refine PW.iload_n (i := 2) dX5_group_19 rfl rfl ?_
  refine PW.if_ge (tgt := 36) dX5_group_20 (by decide) (fun _ => ?_) (fun h20 => absurd (Int32.not_lt.mp (nI_pos (by omega))) h20)
  refine PW.iconst (v := 0) dX5_group_36 (by decide) ?_
  refine PW.istore dX5_group_37 (by decide) rfl ?_
  refine PW.iconst (v := 0) dX5_group_39 (by decide) ?_
  refine PW.istore dX5_group_40 (by decide) rfl ?_
  refine gb_loop (n0 := _) hg hl eN h6 (fun q w5 => ?_) (fun q w5 => ?_) 6 0 rfl (fun i h => absurd h (by omega))
  · rw [hh] at q; cases q
  · skip
    refine PW.aload_n (i := 0) dX5_group_98 rfl rfl ?_
    refine PW.iload dX5_group_99 rfl ?_
    refine PW.iload dX5_group_101 rfl ?_
    refine PW.if_ne (tgt := 125) dX5_group_103 (by decide) (fun h103 => absurd h103 (by decide)) (fun _ => ?_)
    refine PW.iload_n (i := 2) dX5_group_106 rfl rfl ?_
    refine PW.if_lt (tgt := 125) dX5_group_107 (by decide) (fun h107 => absurd h107 (nI_pos (by omega))) (fun _ => ?_)
    refine PW.aload_n (i := 0) dX5_group_110 rfl rfl ?_
    refine PW.getf FX5_group_59 dX5_group_111 sm_mod rfl ?_
    refine PW.iload_n (i := 1) dX5_group_114 rfl rfl ?_
    refine PW.iald dX5_group_115 ma_many rfl (Nat.lt_trans hg (by decide)) (mg_many hg) ?_
    refine PW.bipush (v := 6) dX5_group_116 (by decide) ?_
    refine PW.icmp_ne (tgt := 125) dX5_group_118 (by decide) (fun _ => ?_) (fun h118 => absurd h118 h9)
    refine PW.iconst (v := 0) dX5_group_125 (by decide) ?_
    refine PW.callV (k := kX5_group) (n := 2) (c5_throwing false false) dX5_group_126 gX5_group_X5_throwing rfl hd_X5_throwing rfl ⟨by decide, by decide⟩ ⟨rfl, rfl⟩ (Nat.le_of_ble_eq_true rfl) ⟨by decide, by decide⟩ sm_mod (by decide) rfl rfl (fun v m9 hp => ?_) (fun _ _ hx => hx.elim)
    obtain ⟨rfl, rfl⟩ := hp
    rw [show up2 N 39 7 (thr false false) = Z N from rfl]
    refine PW.if_eq (tgt := 134) dX5_group_129 (by decide) (fun _ => ?_) (fun h129 => absurd (by decide) h129)
    have z1 : Z N (28 + g) 1 = nI (grN N g) := by rw [Z_row (by omega)]; exact eN
    have hn6 : grN N g < 6 := by
      rcases Nat.lt_or_ge (grN N g) 6 with q | q
      · exact q
      · exact absurd (by rw [eN, show grN N g = 6 by omega]; rfl) h9
    refine PW.iload_n (i := 2) dX5_group_134 rfl rfl ?_
    refine PW.if_ge (tgt := 162) dX5_group_135 (by decide) (fun _ => ?_) (fun h135 => absurd (Int32.not_lt.mp (nI_pos (by omega))) h135)
    refine PW.aload_n (i := 0) dX5_group_162 rfl rfl ?_
    refine PW.getf FX5_group_56 dX5_group_163 sm_mod rfl ?_
    refine PW.bipush (v := 6) dX5_group_166 (by decide) ?_
    refine PW.iload_n (i := 1) dX5_group_168 rfl rfl ?_
    refine PW.imul dX5_group_169 ?_
    refine PW.aload_n (i := 0) dX5_group_170 rfl rfl ?_
    refine PW.getf FX5_group_59 dX5_group_171 sm_mod rfl ?_
    refine PW.iload_n (i := 1) dX5_group_174 rfl rfl ?_
    refine PW.iald dX5_group_175 ma_many rfl (Nat.lt_trans hg (by decide)) (mg_many hg) ?_
    rw [z1]
    refine PW.iadd dX5_group_176 ?_
    refine PW.iload_n (i := 2) dX5_group_177 rfl rfl ?_
    refine PW.iast dX5_group_178 ma_members (ix6 g (grN N g)) (by omega) (by rw [maF_len]; show _ < 24; omega) (pm_members hg hn6) ?_
    refine PW.aload_n (i := 0) dX5_group_179 rfl rfl ?_
    refine PW.getf FX5_group_59 dX5_group_180 sm_mod rfl ?_
    refine PW.iload_n (i := 1) dX5_group_183 rfl rfl ?_
    refine PW.dup2 dX5_group_184 rfl rfl ?_
    refine PW.iald dX5_group_185 ma_many rfl (Nat.lt_trans hg (by decide)) (mg_many hg) ?_
    refine PW.iconst (v := 1) dX5_group_186 (by decide) ?_
    refine PW.iadd dX5_group_187 ?_
    rw [up2_r (by omega), z1, nI_1]
    refine PW.iast dX5_group_188 ma_many rfl (Nat.lt_trans hg (by decide)) (by rw [maF_len]; exact hg)  (pm_many hg) ?_
    refine PW.aload_n (i := 0) dX5_group_189 rfl rfl ?_
    refine PW.getf FX5_group_59 dX5_group_190 sm_mod rfl ?_
    refine PW.iload_n (i := 1) dX5_group_193 rfl rfl ?_
    refine PW.iald dX5_group_194 ma_many rfl (Nat.lt_trans hg (by decide)) (mg_many hg) ?_
    exact PW.iret dX5_group_195 rfl ⟨rfl, rfl⟩ (by decide) (by decide)
set_option maxRecDepth 100000 in
set_option maxHeartbeats 4000000 in
theorem c5_slot_bad {M N : dM} {R : pM} (x y z : Int32) (hb : g_in x 0 3 = false ∨ g_in y 0 7 = false) (l9 : Launch) : pMet l9 yX5_slot kX5_slot false [.ref 44, .int x, .int y, .int z] (SM M ++ (MM N ++ R)) (fun v m9 => v = none ∧ m9 = SM M ++ (MM (up2 N 39 7 1) ++ R)) (fun _ _ => False) := by
  refine pMet.of (by decide) rfl rfl rfl (by intro v hv; simp only [List.mem_cons, List.not_mem_nil, or_false] at hv; rcases hv with rfl | rfl | rfl | rfl <;> rfl) (Nat.le_of_ble_eq_true rfl) ?_
  show PW _ _ _ _ _ 0 [some (.ref 44), some (.int x), some (.int y), some (.int z), none] [] (SM M ++ (MM N ++ R)) 0 0
  cases e : g_in x 0 3
  · skip
    refine PW.iload_n (i := 1) dX5_slot_0 rfl rfl ?_
    refine PW.iconst (v := 0) dX5_slot_1 (by decide) ?_
    refine PW.iconst (v := 3) dX5_slot_2 (by decide) ?_
    refine PW.callS (k := kX5_slot) (n := 3) (c5_in _ _ _) dX5_slot_3 gX5_slot_X5_in rfl hs_X5_in rfl ⟨by decide, by decide⟩ ⟨rfl, rfl⟩ (Nat.le_of_ble_eq_true rfl) ⟨by decide, by decide⟩ rfl (fun v m9 hp => ?_) (fun _ _ hx => hx.elim)
    obtain ⟨rfl, rfl⟩ := hp
    rw [e]
    refine PW.if_eq (tgt := 19) dX5_slot_6 (by decide) (fun _ => ?_) (fun h6 => absurd (by decide) h6)
    refine PW.iconst (v := 1) dX5_slot_19 (by decide) ?_
    refine PW.goto (tgt := 24) dX5_slot_20 (by decide) ?_
    refine PW.istore dX5_slot_24 (by decide) rfl ?_
    refine PW.aload_n (i := 0) dX5_slot_26 rfl rfl ?_
    refine PW.iload dX5_slot_27 rfl ?_
    refine PW.iload dX5_slot_29 rfl ?_
    refine PW.if_ne (tgt := 52) dX5_slot_31 (by decide) (fun _ => ?_) (fun h31 => absurd h31 (by decide))
    refine PW.iconst (v := 0) dX5_slot_52 (by decide) ?_
    refine PW.callV (k := kX5_slot) (n := 2) (c5_throwing true false) dX5_slot_53 gX5_slot_X5_throwing rfl hd_X5_throwing rfl ⟨by decide, by decide⟩ ⟨rfl, rfl⟩ (Nat.le_of_ble_eq_true rfl) ⟨by decide, by decide⟩ sm_mod (by decide) rfl rfl (fun v m9 hp => ?_) (fun _ _ hx => hx.elim)
    obtain ⟨rfl, rfl⟩ := hp
    refine PW.if_eq (tgt := 60) dX5_slot_56 (by decide) (fun h56 => absurd h56 (by decide)) (fun _ => ?_)
    exact PW.vret dX5_slot_59 rfl ⟨rfl, rfl⟩ (by decide) (by decide)
  · skip
    refine PW.iload_n (i := 1) dX5_slot_0 rfl rfl ?_
    refine PW.iconst (v := 0) dX5_slot_1 (by decide) ?_
    refine PW.iconst (v := 3) dX5_slot_2 (by decide) ?_
    refine PW.callS (k := kX5_slot) (n := 3) (c5_in _ _ _) dX5_slot_3 gX5_slot_X5_in rfl hs_X5_in rfl ⟨by decide, by decide⟩ ⟨rfl, rfl⟩ (Nat.le_of_ble_eq_true rfl) ⟨by decide, by decide⟩ rfl (fun v m9 hp => ?_) (fun _ _ hx => hx.elim)
    obtain ⟨rfl, rfl⟩ := hp
    rw [e]
    refine PW.if_eq (tgt := 19) dX5_slot_6 (by decide) (fun h6 => absurd h6 (by decide)) (fun _ => ?_)
    refine PW.iload_n (i := 2) dX5_slot_9 rfl rfl ?_
    refine PW.iconst (v := 0) dX5_slot_10 (by decide) ?_
    refine PW.bipush (v := 7) dX5_slot_11 (by decide) ?_
    refine PW.callS (k := kX5_slot) (n := 3) (c5_in _ _ _) dX5_slot_13 gX5_slot_X5_in rfl hs_X5_in rfl ⟨by decide, by decide⟩ ⟨rfl, rfl⟩ (Nat.le_of_ble_eq_true rfl) ⟨by decide, by decide⟩ rfl (fun v m9 hp => ?_) (fun _ _ hx => hx.elim)
    obtain ⟨rfl, rfl⟩ := hp
    rw [(hb.resolve_left (by rw [e]; decide))]
    refine PW.if_ne (tgt := 23) dX5_slot_16 (by decide) (fun h16 => absurd h16 (by decide)) (fun _ => ?_)
    refine PW.iconst (v := 1) dX5_slot_19 (by decide) ?_
    refine PW.goto (tgt := 24) dX5_slot_20 (by decide) ?_
    refine PW.istore dX5_slot_24 (by decide) rfl ?_
    refine PW.aload_n (i := 0) dX5_slot_26 rfl rfl ?_
    refine PW.iload dX5_slot_27 rfl ?_
    refine PW.iload dX5_slot_29 rfl ?_
    refine PW.if_ne (tgt := 52) dX5_slot_31 (by decide) (fun _ => ?_) (fun h31 => absurd h31 (by decide))
    refine PW.iconst (v := 0) dX5_slot_52 (by decide) ?_
    refine PW.callV (k := kX5_slot) (n := 2) (c5_throwing true false) dX5_slot_53 gX5_slot_X5_throwing rfl hd_X5_throwing rfl ⟨by decide, by decide⟩ ⟨rfl, rfl⟩ (Nat.le_of_ble_eq_true rfl) ⟨by decide, by decide⟩ sm_mod (by decide) rfl rfl (fun v m9 hp => ?_) (fun _ _ hx => hx.elim)
    obtain ⟨rfl, rfl⟩ := hp
    refine PW.if_eq (tgt := 60) dX5_slot_56 (by decide) (fun h56 => absurd h56 (by decide)) (fun _ => ?_)
    exact PW.vret dX5_slot_59 rfl ⟨rfl, rfl⟩ (by decide) (by decide)
set_option maxRecDepth 100000 in
set_option maxHeartbeats 4000000 in
theorem c5_slot_two {M N : dM} {R : pM} {u t : Nat} (hu : u < 4) (ht : t < 8) (z : Int32) (h0 : ¬ N (24 + u) t < 0) (l9 : Launch) : pMet l9 yX5_slot kX5_slot false [.ref 44, .int (nI u), .int (nI t), .int z] (SM M ++ (MM N ++ R)) (fun v m9 => v = none ∧ m9 = SM M ++ (MM (up2 N 39 7 2) ++ R)) (fun _ _ => False) := by
  refine pMet.of (by decide) rfl rfl rfl (by intro v hv; simp only [List.mem_cons, List.not_mem_nil, or_false] at hv; rcases hv with rfl | rfl | rfl | rfl <;> rfl) (Nat.le_of_ble_eq_true rfl) ?_
  show PW _ _ _ _ _ 0 [some (.ref 44), some (.int (nI u)), some (.int (nI t)), some (.int z), none] [] (SM M ++ (MM N ++ R)) 0 0
  refine PW.iload_n (i := 1) dX5_slot_0 rfl rfl ?_
  refine PW.iconst (v := 0) dX5_slot_1 (by decide) ?_
  refine PW.iconst (v := 3) dX5_slot_2 (by decide) ?_
  refine PW.callS (k := kX5_slot) (n := 3) (c5_in _ _ _) dX5_slot_3 gX5_slot_X5_in rfl hs_X5_in rfl ⟨by decide, by decide⟩ ⟨rfl, rfl⟩ (Nat.le_of_ble_eq_true rfl) ⟨by decide, by decide⟩ rfl (fun v m9 hp => ?_) (fun _ _ hx => hx.elim)
  obtain ⟨rfl, rfl⟩ := hp
  rw [in3 hu]
  refine PW.if_eq (tgt := 19) dX5_slot_6 (by decide) (fun h6 => absurd h6 (by decide)) (fun _ => ?_)
  refine PW.iload_n (i := 2) dX5_slot_9 rfl rfl ?_
  refine PW.iconst (v := 0) dX5_slot_10 (by decide) ?_
  refine PW.bipush (v := 7) dX5_slot_11 (by decide) ?_
  refine PW.callS (k := kX5_slot) (n := 3) (c5_in _ _ _) dX5_slot_13 gX5_slot_X5_in rfl hs_X5_in rfl ⟨by decide, by decide⟩ ⟨rfl, rfl⟩ (Nat.le_of_ble_eq_true rfl) ⟨by decide, by decide⟩ rfl (fun v m9 hp => ?_) (fun _ _ hx => hx.elim)
  obtain ⟨rfl, rfl⟩ := hp
  rw [in7 ht]
  refine PW.if_ne (tgt := 23) dX5_slot_16 (by decide) (fun _ => ?_) (fun h16 => absurd h16 (by decide))
  refine PW.iconst (v := 0) dX5_slot_23 (by decide) ?_
  refine PW.istore dX5_slot_24 (by decide) rfl ?_
  refine PW.aload_n (i := 0) dX5_slot_26 rfl rfl ?_
  refine PW.iload dX5_slot_27 rfl ?_
  refine PW.iload dX5_slot_29 rfl ?_
  refine PW.if_ne (tgt := 52) dX5_slot_31 (by decide) (fun h31 => absurd h31 (by decide)) (fun _ => ?_)
  refine PW.aload_n (i := 0) dX5_slot_34 rfl rfl ?_
  refine PW.getf FX5_slot_53 dX5_slot_35 sm_mod rfl ?_
  refine PW.bipush (v := 8) dX5_slot_38 (by decide) ?_
  refine PW.iload_n (i := 1) dX5_slot_40 rfl rfl ?_
  refine PW.imul dX5_slot_41 ?_
  refine PW.iload_n (i := 2) dX5_slot_42 rfl rfl ?_
  refine PW.iadd dX5_slot_43 ?_
  refine PW.iald dX5_slot_44 ma_slots (ix8u u t) (by omega) (mg_slots hu ht) ?_
  refine PW.if_lt (tgt := 52) dX5_slot_45 (by decide) (fun h45 => absurd h45 h0) (fun _ => ?_)
  refine PW.iconst (v := 1) dX5_slot_48 (by decide) ?_
  refine PW.goto (tgt := 53) dX5_slot_49 (by decide) ?_
  refine PW.callV (k := kX5_slot) (n := 2) (c5_throwing false true) dX5_slot_53 gX5_slot_X5_throwing rfl hd_X5_throwing rfl ⟨by decide, by decide⟩ ⟨rfl, rfl⟩ (Nat.le_of_ble_eq_true rfl) ⟨by decide, by decide⟩ sm_mod (by decide) rfl rfl (fun v m9 hp => ?_) (fun _ _ hx => hx.elim)
  obtain ⟨rfl, rfl⟩ := hp
  refine PW.if_eq (tgt := 60) dX5_slot_56 (by decide) (fun h56 => absurd h56 (by decide)) (fun _ => ?_)
  exact PW.vret dX5_slot_59 rfl ⟨rfl, rfl⟩ (by decide) (by decide)
set_option maxRecDepth 100000 in
set_option maxHeartbeats 4000000 in
theorem c5_slot_ok {M N : dM} {R : pM} {u t : Nat} (hu : u < 4) (ht : t < 8) (z : Int32) (h0 : N (24 + u) t < 0) (l9 : Launch) : pMet l9 yX5_slot kX5_slot false [.ref 44, .int (nI u), .int (nI t), .int z] (SM M ++ (MM N ++ R)) (fun v m9 => v = none ∧ m9 = SM M ++ (MM (f_slot (Z N) u t z) ++ R)) (fun _ _ => False) := by
  refine pMet.of (by decide) rfl rfl rfl (by intro v hv; simp only [List.mem_cons, List.not_mem_nil, or_false] at hv; rcases hv with rfl | rfl | rfl | rfl <;> rfl) (Nat.le_of_ble_eq_true rfl) ?_
  show PW _ _ _ _ _ 0 [some (.ref 44), some (.int (nI u)), some (.int (nI t)), some (.int z), none] [] (SM M ++ (MM N ++ R)) 0 0
  refine PW.iload_n (i := 1) dX5_slot_0 rfl rfl ?_
  refine PW.iconst (v := 0) dX5_slot_1 (by decide) ?_
  refine PW.iconst (v := 3) dX5_slot_2 (by decide) ?_
  refine PW.callS (k := kX5_slot) (n := 3) (c5_in _ _ _) dX5_slot_3 gX5_slot_X5_in rfl hs_X5_in rfl ⟨by decide, by decide⟩ ⟨rfl, rfl⟩ (Nat.le_of_ble_eq_true rfl) ⟨by decide, by decide⟩ rfl (fun v m9 hp => ?_) (fun _ _ hx => hx.elim)
  obtain ⟨rfl, rfl⟩ := hp
  rw [in3 hu]
  refine PW.if_eq (tgt := 19) dX5_slot_6 (by decide) (fun h6 => absurd h6 (by decide)) (fun _ => ?_)
  refine PW.iload_n (i := 2) dX5_slot_9 rfl rfl ?_
  refine PW.iconst (v := 0) dX5_slot_10 (by decide) ?_
  refine PW.bipush (v := 7) dX5_slot_11 (by decide) ?_
  refine PW.callS (k := kX5_slot) (n := 3) (c5_in _ _ _) dX5_slot_13 gX5_slot_X5_in rfl hs_X5_in rfl ⟨by decide, by decide⟩ ⟨rfl, rfl⟩ (Nat.le_of_ble_eq_true rfl) ⟨by decide, by decide⟩ rfl (fun v m9 hp => ?_) (fun _ _ hx => hx.elim)
  obtain ⟨rfl, rfl⟩ := hp
  rw [in7 ht]
  refine PW.if_ne (tgt := 23) dX5_slot_16 (by decide) (fun _ => ?_) (fun h16 => absurd h16 (by decide))
  refine PW.iconst (v := 0) dX5_slot_23 (by decide) ?_
  refine PW.istore dX5_slot_24 (by decide) rfl ?_
  refine PW.aload_n (i := 0) dX5_slot_26 rfl rfl ?_
  refine PW.iload dX5_slot_27 rfl ?_
  refine PW.iload dX5_slot_29 rfl ?_
  refine PW.if_ne (tgt := 52) dX5_slot_31 (by decide) (fun h31 => absurd h31 (by decide)) (fun _ => ?_)
  refine PW.aload_n (i := 0) dX5_slot_34 rfl rfl ?_
  refine PW.getf FX5_slot_53 dX5_slot_35 sm_mod rfl ?_
  refine PW.bipush (v := 8) dX5_slot_38 (by decide) ?_
  refine PW.iload_n (i := 1) dX5_slot_40 rfl rfl ?_
  refine PW.imul dX5_slot_41 ?_
  refine PW.iload_n (i := 2) dX5_slot_42 rfl rfl ?_
  refine PW.iadd dX5_slot_43 ?_
  refine PW.iald dX5_slot_44 ma_slots (ix8u u t) (by omega) (mg_slots hu ht) ?_
  refine PW.if_lt (tgt := 52) dX5_slot_45 (by decide) (fun _ => ?_) (fun h45 => absurd h0 h45)
  refine PW.iconst (v := 0) dX5_slot_52 (by decide) ?_
  refine PW.callV (k := kX5_slot) (n := 2) (c5_throwing false false) dX5_slot_53 gX5_slot_X5_throwing rfl hd_X5_throwing rfl ⟨by decide, by decide⟩ ⟨rfl, rfl⟩ (Nat.le_of_ble_eq_true rfl) ⟨by decide, by decide⟩ sm_mod (by decide) rfl rfl (fun v m9 hp => ?_) (fun _ _ hx => hx.elim)
  obtain ⟨rfl, rfl⟩ := hp
  rw [show up2 N 39 7 (thr false false) = Z N from rfl]
  refine PW.if_eq (tgt := 60) dX5_slot_56 (by decide) (fun _ => ?_) (fun h56 => absurd (by decide) h56)
  refine PW.aload_n (i := 0) dX5_slot_60 rfl rfl ?_
  refine PW.getf FX5_slot_53 dX5_slot_61 sm_mod rfl ?_
  refine PW.bipush (v := 8) dX5_slot_64 (by decide) ?_
  refine PW.iload_n (i := 1) dX5_slot_66 rfl rfl ?_
  refine PW.imul dX5_slot_67 ?_
  refine PW.iload_n (i := 2) dX5_slot_68 rfl rfl ?_
  refine PW.iadd dX5_slot_69 ?_
  refine PW.iload_n (i := 3) dX5_slot_70 rfl rfl ?_
  refine PW.if_eq (tgt := 78) dX5_slot_71 (by decide) (fun h71 => ?_) (fun h71 => ?_)
  · refine PW.bipush (v := (-2)) dX5_slot_78 (by decide) ?_
    refine PW.iast dX5_slot_80 ma_slots (ix8u u t) (by omega) (by rw [maF_len]; show _ < 32; omega) (pm_slots hu ht) ?_
    exact PW.vret dX5_slot_81 rfl ⟨rfl, by rw [f_slot]; first | rw [if_pos h71] | rw [if_neg h71]⟩ (by decide) (by decide)
  · refine PW.iconst (v := (-1)) dX5_slot_74 (by decide) ?_
    refine PW.goto (tgt := 80) dX5_slot_75 (by decide) ?_
    refine PW.iast dX5_slot_80 ma_slots (ix8u u t) (by omega) (by rw [maF_len]; show _ < 32; omega) (pm_slots hu ht) ?_
    exact PW.vret dX5_slot_81 rfl ⟨rfl, by rw [f_slot]; first | rw [if_pos h71] | rw [if_neg h71]⟩ (by decide) (by decide)
set_option maxRecDepth 100000 in
set_option maxHeartbeats 4000000 in
theorem c5_carries_bad {M N : dM} {R : pM} (x y : Int32) (hb : g_in x 0 3 = false ∨ g_in y 0 7 = false) (l9 : Launch) : pMet l9 yX5_carries kX5_carries false [.ref 44, .int x, .int y] (SM M ++ (MM N ++ R)) (fun v m9 => v = some (.int (0)) ∧ m9 = SM M ++ (MM (up2 N 39 7 1) ++ R)) (fun _ _ => False) := by
  refine pMet.of (by decide) rfl rfl rfl (by intro v hv; simp only [List.mem_cons, List.not_mem_nil, or_false] at hv; rcases hv with rfl | rfl | rfl <;> rfl) (Nat.le_of_ble_eq_true rfl) ?_
  show PW _ _ _ _ _ 0 [some (.ref 44), some (.int x), some (.int y)] [] (SM M ++ (MM N ++ R)) 0 0
  cases e : g_in x 0 3
  · skip
    refine PW.aload_n (i := 0) dX5_carries_0 rfl rfl ?_
    refine PW.iload_n (i := 1) dX5_carries_1 rfl rfl ?_
    refine PW.iconst (v := 0) dX5_carries_2 (by decide) ?_
    refine PW.iconst (v := 3) dX5_carries_3 (by decide) ?_
    refine PW.callS (k := kX5_carries) (n := 3) (c5_in _ _ _) dX5_carries_4 gX5_carries_X5_in rfl hs_X5_in rfl ⟨by decide, by decide⟩ ⟨rfl, rfl⟩ (Nat.le_of_ble_eq_true rfl) ⟨by decide, by decide⟩ rfl (fun v m9 hp => ?_) (fun _ _ hx => hx.elim)
    obtain ⟨rfl, rfl⟩ := hp
    rw [e]
    refine PW.if_eq (tgt := 20) dX5_carries_7 (by decide) (fun _ => ?_) (fun h7 => absurd (by decide) h7)
    refine PW.iconst (v := 1) dX5_carries_20 (by decide) ?_
    refine PW.goto (tgt := 25) dX5_carries_21 (by decide) ?_
    refine PW.iconst (v := 0) dX5_carries_25 (by decide) ?_
    refine PW.callV (k := kX5_carries) (n := 2) (c5_throwing true false) dX5_carries_26 gX5_carries_X5_throwing rfl hd_X5_throwing rfl ⟨by decide, by decide⟩ ⟨rfl, rfl⟩ (Nat.le_of_ble_eq_true rfl) ⟨by decide, by decide⟩ sm_mod (by decide) rfl rfl (fun v m9 hp => ?_) (fun _ _ hx => hx.elim)
    obtain ⟨rfl, rfl⟩ := hp
    refine PW.if_eq (tgt := 34) dX5_carries_29 (by decide) (fun h29 => absurd h29 (by decide)) (fun _ => ?_)
    refine PW.iconst (v := 0) dX5_carries_32 (by decide) ?_
    exact PW.iret dX5_carries_33 rfl ⟨rfl, rfl⟩ (by decide) (by decide)
  · skip
    refine PW.aload_n (i := 0) dX5_carries_0 rfl rfl ?_
    refine PW.iload_n (i := 1) dX5_carries_1 rfl rfl ?_
    refine PW.iconst (v := 0) dX5_carries_2 (by decide) ?_
    refine PW.iconst (v := 3) dX5_carries_3 (by decide) ?_
    refine PW.callS (k := kX5_carries) (n := 3) (c5_in _ _ _) dX5_carries_4 gX5_carries_X5_in rfl hs_X5_in rfl ⟨by decide, by decide⟩ ⟨rfl, rfl⟩ (Nat.le_of_ble_eq_true rfl) ⟨by decide, by decide⟩ rfl (fun v m9 hp => ?_) (fun _ _ hx => hx.elim)
    obtain ⟨rfl, rfl⟩ := hp
    rw [e]
    refine PW.if_eq (tgt := 20) dX5_carries_7 (by decide) (fun h7 => absurd h7 (by decide)) (fun _ => ?_)
    refine PW.iload_n (i := 2) dX5_carries_10 rfl rfl ?_
    refine PW.iconst (v := 0) dX5_carries_11 (by decide) ?_
    refine PW.bipush (v := 7) dX5_carries_12 (by decide) ?_
    refine PW.callS (k := kX5_carries) (n := 3) (c5_in _ _ _) dX5_carries_14 gX5_carries_X5_in rfl hs_X5_in rfl ⟨by decide, by decide⟩ ⟨rfl, rfl⟩ (Nat.le_of_ble_eq_true rfl) ⟨by decide, by decide⟩ rfl (fun v m9 hp => ?_) (fun _ _ hx => hx.elim)
    obtain ⟨rfl, rfl⟩ := hp
    rw [(hb.resolve_left (by rw [e]; decide))]
    refine PW.if_ne (tgt := 24) dX5_carries_17 (by decide) (fun h17 => absurd h17 (by decide)) (fun _ => ?_)
    refine PW.iconst (v := 1) dX5_carries_20 (by decide) ?_
    refine PW.goto (tgt := 25) dX5_carries_21 (by decide) ?_
    refine PW.iconst (v := 0) dX5_carries_25 (by decide) ?_
    refine PW.callV (k := kX5_carries) (n := 2) (c5_throwing true false) dX5_carries_26 gX5_carries_X5_throwing rfl hd_X5_throwing rfl ⟨by decide, by decide⟩ ⟨rfl, rfl⟩ (Nat.le_of_ble_eq_true rfl) ⟨by decide, by decide⟩ sm_mod (by decide) rfl rfl (fun v m9 hp => ?_) (fun _ _ hx => hx.elim)
    obtain ⟨rfl, rfl⟩ := hp
    refine PW.if_eq (tgt := 34) dX5_carries_29 (by decide) (fun h29 => absurd h29 (by decide)) (fun _ => ?_)
    refine PW.iconst (v := 0) dX5_carries_32 (by decide) ?_
    exact PW.iret dX5_carries_33 rfl ⟨rfl, rfl⟩ (by decide) (by decide)
set_option maxRecDepth 100000 in
set_option maxHeartbeats 4000000 in
theorem c5_carries_ok {M N : dM} {R : pM} {u t : Nat} (hu : u < 4) (ht : t < 8) (l9 : Launch) : pMet l9 yX5_carries kX5_carries false [.ref 44, .int (nI u), .int (nI t)] (SM M ++ (MM N ++ R)) (fun v m9 => v = some (.int (Z N (24 + u) t)) ∧ m9 = SM M ++ (MM (Z N) ++ R)) (fun _ _ => False) := by
  refine pMet.of (by decide) rfl rfl rfl (by intro v hv; simp only [List.mem_cons, List.not_mem_nil, or_false] at hv; rcases hv with rfl | rfl | rfl <;> rfl) (Nat.le_of_ble_eq_true rfl) ?_
  show PW _ _ _ _ _ 0 [some (.ref 44), some (.int (nI u)), some (.int (nI t))] [] (SM M ++ (MM N ++ R)) 0 0
  refine PW.aload_n (i := 0) dX5_carries_0 rfl rfl ?_
  refine PW.iload_n (i := 1) dX5_carries_1 rfl rfl ?_
  refine PW.iconst (v := 0) dX5_carries_2 (by decide) ?_
  refine PW.iconst (v := 3) dX5_carries_3 (by decide) ?_
  refine PW.callS (k := kX5_carries) (n := 3) (c5_in _ _ _) dX5_carries_4 gX5_carries_X5_in rfl hs_X5_in rfl ⟨by decide, by decide⟩ ⟨rfl, rfl⟩ (Nat.le_of_ble_eq_true rfl) ⟨by decide, by decide⟩ rfl (fun v m9 hp => ?_) (fun _ _ hx => hx.elim)
  obtain ⟨rfl, rfl⟩ := hp
  rw [in3 hu]
  refine PW.if_eq (tgt := 20) dX5_carries_7 (by decide) (fun h7 => absurd h7 (by decide)) (fun _ => ?_)
  refine PW.iload_n (i := 2) dX5_carries_10 rfl rfl ?_
  refine PW.iconst (v := 0) dX5_carries_11 (by decide) ?_
  refine PW.bipush (v := 7) dX5_carries_12 (by decide) ?_
  refine PW.callS (k := kX5_carries) (n := 3) (c5_in _ _ _) dX5_carries_14 gX5_carries_X5_in rfl hs_X5_in rfl ⟨by decide, by decide⟩ ⟨rfl, rfl⟩ (Nat.le_of_ble_eq_true rfl) ⟨by decide, by decide⟩ rfl (fun v m9 hp => ?_) (fun _ _ hx => hx.elim)
  obtain ⟨rfl, rfl⟩ := hp
  rw [in7 ht]
  refine PW.if_ne (tgt := 24) dX5_carries_17 (by decide) (fun _ => ?_) (fun h17 => absurd h17 (by decide))
  refine PW.iconst (v := 0) dX5_carries_24 (by decide) ?_
  refine PW.iconst (v := 0) dX5_carries_25 (by decide) ?_
  refine PW.callV (k := kX5_carries) (n := 2) (c5_throwing false false) dX5_carries_26 gX5_carries_X5_throwing rfl hd_X5_throwing rfl ⟨by decide, by decide⟩ ⟨rfl, rfl⟩ (Nat.le_of_ble_eq_true rfl) ⟨by decide, by decide⟩ sm_mod (by decide) rfl rfl (fun v m9 hp => ?_) (fun _ _ hx => hx.elim)
  obtain ⟨rfl, rfl⟩ := hp
  rw [show up2 N 39 7 (thr false false) = Z N from rfl]
  refine PW.if_eq (tgt := 34) dX5_carries_29 (by decide) (fun _ => ?_) (fun h29 => absurd (by decide) h29)
  refine PW.aload_n (i := 0) dX5_carries_34 rfl rfl ?_
  refine PW.getf FX5_carries_53 dX5_carries_35 sm_mod rfl ?_
  refine PW.bipush (v := 8) dX5_carries_38 (by decide) ?_
  refine PW.iload_n (i := 1) dX5_carries_40 rfl rfl ?_
  refine PW.imul dX5_carries_41 ?_
  refine PW.iload_n (i := 2) dX5_carries_42 rfl rfl ?_
  refine PW.iadd dX5_carries_43 ?_
  refine PW.iald dX5_carries_44 ma_slots (ix8u u t) (by omega) (mg_slots hu ht) ?_
  exact PW.iret dX5_carries_45 rfl ⟨rfl, rfl⟩ (by decide) (by decide)
