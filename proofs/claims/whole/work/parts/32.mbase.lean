set_option maxRecDepth 100000 in
set_option maxHeartbeats 4000000 in
theorem c5_thrown {M N : dM} {R : pM}  (l9 : Launch) : pMet l9 yX5_thrown kX5_thrown false [.ref 44] (SM M ++ (MM N ++ R)) (fun v m9 => v = some (.int (N 39 7)) ∧ m9 = SM M ++ (MM (N) ++ R)) (fun _ _ => False) := by
  refine pMet.of (by decide) rfl rfl rfl (by intro v hv; simp only [List.mem_cons, List.not_mem_nil, or_false] at hv; subst hv; rfl) (Nat.le_of_ble_eq_true rfl) ?_
  show PW _ _ _ _ _ 0 [some (.ref 44)] [] (SM M ++ (MM N ++ R)) 0 0
  refine PW.aload_n (i := 0) dX5_thrown_0 rfl rfl ?_
  refine PW.getf FX5_thrown_71 dX5_thrown_1 sm_mod rfl ?_
  exact PW.iret dX5_thrown_4 rfl ⟨rfl, rfl⟩ (by decide) (by decide)
def thr (a b : Bool) : Int32 := if a then 1 else if b then 2 else 0
set_option maxRecDepth 100000 in
set_option maxHeartbeats 4000000 in
theorem c5_throwing {M N : dM} {R : pM} (a b : Bool) (l9 : Launch) : pMet l9 yX5_throwing kX5_throwing false [.ref 44, .int (b2i a), .int (b2i b)] (SM M ++ (MM N ++ R)) (fun v m9 => v = some (.int (b2i (a || b))) ∧ m9 = SM M ++ (MM (up2 N 39 7 (thr a b)) ++ R)) (fun _ _ => False) := by
  refine pMet.of (by decide) rfl rfl rfl (by intro v hv; simp only [List.mem_cons, List.not_mem_nil, or_false] at hv; rcases hv with rfl | rfl | rfl <;> rfl) (Nat.le_of_ble_eq_true rfl) ?_
  show PW _ _ _ _ _ 0 [some (.ref 44), some (.int (b2i a)), some (.int (b2i b))] [] (SM M ++ (MM N ++ R)) 0 0
  cases a
  · cases b
    · refine PW.aload_n (i := 0) dX5_throwing_0 rfl rfl ?_
      refine PW.iload_n (i := 1) dX5_throwing_1 rfl rfl ?_
      refine PW.if_eq (tgt := 9) dX5_throwing_2 (by decide) (fun _ => ?_) (fun h2 => absurd rfl h2)
      refine PW.iload_n (i := 2) dX5_throwing_9 rfl rfl ?_
      refine PW.if_eq (tgt := 17) dX5_throwing_10 (by decide) (fun _ => ?_) (fun h10 => absurd rfl h10)
      refine PW.iconst (v := 0) dX5_throwing_17 (by decide) ?_
      refine PW.putf FX5_throwing_71 (Fw_5_0 _) dX5_throwing_18 sm_mod (Nat.le_of_ble_eq_true rfl) (fun _ => rfl) (fun _ => rfl) pm_thrown ?_
      refine PW.aload_n (i := 0) dX5_throwing_21 rfl rfl ?_
      refine PW.getf FX5_throwing_71 dX5_throwing_22 sm_mod rfl ?_
      refine PW.if_le (tgt := 32) dX5_throwing_25 (by decide) (fun _ => ?_) (fun h25 => absurd (by rw [up2_s]; decide) h25)
      refine PW.iconst (v := 0) dX5_throwing_32 (by decide) ?_
      exact PW.zret (v := 0) dX5_throwing_33 rfl rfl ⟨rfl, rfl⟩ (by decide) (by decide)
    · refine PW.aload_n (i := 0) dX5_throwing_0 rfl rfl ?_
      refine PW.iload_n (i := 1) dX5_throwing_1 rfl rfl ?_
      refine PW.if_eq (tgt := 9) dX5_throwing_2 (by decide) (fun _ => ?_) (fun h2 => absurd rfl h2)
      refine PW.iload_n (i := 2) dX5_throwing_9 rfl rfl ?_
      refine PW.if_eq (tgt := 17) dX5_throwing_10 (by decide) (fun h10 => absurd h10 (by decide)) (fun _ => ?_)
      refine PW.iconst (v := 2) dX5_throwing_13 (by decide) ?_
      refine PW.goto (tgt := 18) dX5_throwing_14 (by decide) ?_
      refine PW.putf FX5_throwing_71 (Fw_5_0 _) dX5_throwing_18 sm_mod (Nat.le_of_ble_eq_true rfl) (fun _ => rfl) (fun _ => rfl) pm_thrown ?_
      refine PW.aload_n (i := 0) dX5_throwing_21 rfl rfl ?_
      refine PW.getf FX5_throwing_71 dX5_throwing_22 sm_mod rfl ?_
      refine PW.if_le (tgt := 32) dX5_throwing_25 (by decide) (fun h25 => absurd h25 (by rw [up2_s]; decide)) (fun _ => ?_)
      refine PW.iconst (v := 1) dX5_throwing_28 (by decide) ?_
      refine PW.goto (tgt := 33) dX5_throwing_29 (by decide) ?_
      exact PW.zret (v := 1) dX5_throwing_33 rfl rfl ⟨rfl, rfl⟩ (by decide) (by decide)
  · refine PW.aload_n (i := 0) dX5_throwing_0 rfl rfl ?_
    refine PW.iload_n (i := 1) dX5_throwing_1 rfl rfl ?_
    refine PW.if_eq (tgt := 9) dX5_throwing_2 (by decide) (fun h2 => absurd h2 (by decide)) (fun _ => ?_)
    refine PW.iconst (v := 1) dX5_throwing_5 (by decide) ?_
    refine PW.goto (tgt := 18) dX5_throwing_6 (by decide) ?_
    refine PW.putf FX5_throwing_71 (Fw_5_0 _) dX5_throwing_18 sm_mod (Nat.le_of_ble_eq_true rfl) (fun _ => rfl) (fun _ => rfl) pm_thrown ?_
    refine PW.aload_n (i := 0) dX5_throwing_21 rfl rfl ?_
    refine PW.getf FX5_throwing_71 dX5_throwing_22 sm_mod rfl ?_
    refine PW.if_le (tgt := 32) dX5_throwing_25 (by decide) (fun h25 => absurd h25 (by rw [up2_s]; decide)) (fun _ => ?_)
    refine PW.iconst (v := 1) dX5_throwing_28 (by decide) ?_
    refine PW.goto (tgt := 33) dX5_throwing_29 (by decide) ?_
    exact PW.zret (v := 1) dX5_throwing_33 rfl rfl ⟨rfl, rfl⟩ (by decide) (by decide)
def g_in (v a b : Int32) : Bool := decide (¬ v < a ∧ ¬ b < v)
set_option maxRecDepth 100000 in
set_option maxHeartbeats 4000000 in
theorem c5_in {M N : dM} {R : pM} (x a b : Int32) (l9 : Launch) : pMet l9 yX5_in kX5_in false [.int x, .int a, .int b] (SM M ++ (MM N ++ R)) (fun v m9 => v = some (.int (b2i (g_in x a b))) ∧ m9 = SM M ++ (MM (N) ++ R)) (fun _ _ => False) := by
  refine pMet.of (by decide) rfl rfl rfl (by intro v hv; simp only [List.mem_cons, List.not_mem_nil, or_false] at hv; rcases hv with rfl | rfl | rfl <;> rfl) (Nat.le_of_ble_eq_true rfl) ?_
  show PW _ _ _ _ _ 0 [some (.int x), some (.int a), some (.int b)] [] (SM M ++ (MM N ++ R)) 0 0
  refine PW.iload_n (i := 0) dX5_in_0 rfl rfl ?_
  refine PW.iload_n (i := 1) dX5_in_1 rfl rfl ?_
  refine PW.icmp_lt (tgt := 14) dX5_in_2 (by decide) (fun h2 => ?_) (fun h2 => ?_)
  · refine PW.iconst (v := 0) dX5_in_14 (by decide) ?_
    exact PW.zret (v := 0) dX5_in_15 rfl rfl ⟨by simp [g_in, b2i, h2], rfl⟩ (by decide) (by decide)
  · refine PW.iload_n (i := 0) dX5_in_5 rfl rfl ?_
    refine PW.iload_n (i := 2) dX5_in_6 rfl rfl ?_
    refine PW.icmp_gt (tgt := 14) dX5_in_7 (by decide) (fun h7 => ?_) (fun h7 => ?_)
    · refine PW.iconst (v := 0) dX5_in_14 (by decide) ?_
      exact PW.zret (v := 0) dX5_in_15 rfl rfl ⟨by simp [g_in, b2i, h2, h7], rfl⟩ (by decide) (by decide)
    · refine PW.iconst (v := 1) dX5_in_10 (by decide) ?_
      refine PW.goto (tgt := 15) dX5_in_11 (by decide) ?_
      exact PW.zret (v := 1) dX5_in_15 rfl rfl ⟨by simp [g_in, b2i, h2, h7], rfl⟩ (by decide) (by decide)
set_option maxRecDepth 100000 in
set_option maxHeartbeats 4000000 in
theorem c5_isLine {M N : dM} {R : pM} (x : Int32) (l9 : Launch) : pMet l9 yX5_isLine kX5_isLine false [.int x] (SM M ++ (MM N ++ R)) (fun v m9 => v = some (.int (b2i (g_in x 0 23))) ∧ m9 = SM M ++ (MM (N) ++ R)) (fun _ _ => False) := by
  refine pMet.of (by decide) rfl rfl rfl (by intro v hv; simp only [List.mem_cons, List.not_mem_nil, or_false] at hv; subst hv; rfl) (Nat.le_of_ble_eq_true rfl) ?_
  show PW _ _ _ _ _ 0 [some (.int x)] [] (SM M ++ (MM N ++ R)) 0 0
  refine PW.iload_n (i := 0) dX5_isLine_0 rfl rfl ?_
  refine PW.iconst (v := 0) dX5_isLine_1 (by decide) ?_
  refine PW.bipush (v := 23) dX5_isLine_2 (by decide) ?_
  refine PW.callS (k := kX5_isLine) (n := 3) (c5_in _ _ _) dX5_isLine_4 gX5_isLine_X5_in rfl hs_X5_in rfl ⟨by decide, by decide⟩ ⟨rfl, rfl⟩ (Nat.le_of_ble_eq_true rfl) ⟨by decide, by decide⟩ rfl (fun v m9 hp => ?_) (fun _ _ hx => hx.elim)
  obtain ⟨rfl, rfl⟩ := hp
  exact PW.zret dX5_isLine_7 rfl (b2i_n _) ⟨rfl, rfl⟩ (by decide) (by decide)
set_option maxRecDepth 100000 in
set_option maxHeartbeats 4000000 in
theorem fr5_loop {M N : dM} {R : pM} {n0 a b : Nat} (ha : a < 24) (hb : b < 24) : ∀ (n s : Nat), s + n = 8 → ff (N (24 + a / 6)) (N (24 + b / 6)) n s = f_free N a b → PW kX5_free false n0 (fun v m9 => v = some (.int (f_free N a b)) ∧ m9 = SM M ++ (MM N ++ R)) (fun _ _ => False) 2 [some (.ref 44), some (.int (nI a)), some (.int (nI b)), some (.int (nI s))] [] (SM M ++ (MM N ++ R)) 0 0 := by
  intro n
  induction n with
  | zero =>
    intro s hs hr
    refine PW.iload_n (i := 3) dX5_free_2 rfl rfl ?_
    refine PW.bipush (v := 8) dX5_free_3 (by decide) ?_
    refine PW.icmp_ge (tgt := 52) dX5_free_5 (by decide) (fun _ => ?_) (fun h5 => absurd (nI_le (a := 8) (b := s) (by omega) (by omega)) h5)
    refine PW.iconst (v := (-1)) dX5_free_52 (by decide) ?_
    exact PW.iret dX5_free_53 rfl ⟨by rw [← hr]; rfl, rfl⟩ (by decide) (by decide)
  | succ n ih =>
    intro s hs hr
    refine PW.iload_n (i := 3) dX5_free_2 rfl rfl ?_
    refine PW.bipush (v := 8) dX5_free_3 (by decide) ?_
    refine PW.icmp_ge (tgt := 52) dX5_free_5 (by decide) (fun h5 => absurd h5 (nI_ge (a := s) (b := 8) (by omega) (by decide))) (fun _ => ?_)
    have hs9 : s < 8 := by omega
    refine PW.aload_n (i := 0) dX5_free_8 rfl rfl ?_
    refine PW.getf FX5_free_53 dX5_free_9 sm_mod rfl ?_
    refine PW.bipush (v := 8) dX5_free_12 (by decide) ?_
    refine PW.iload_n (i := 1) dX5_free_14 rfl rfl ?_
    refine PW.bipush (v := 6) dX5_free_15 (by decide) ?_
    refine PW.idiv dX5_free_17 (by decide) ?_
    refine PW.imul dX5_free_18 ?_
    refine PW.iload_n (i := 3) dX5_free_19 rfl rfl ?_
    refine PW.iadd dX5_free_20 ?_
    refine PW.iald dX5_free_21 ma_slots (ix8 ha) (by omega) (mg_slots (u6 ha) hs9) ?_
    refine PW.iconst (v := (-1)) dX5_free_22 (by decide) ?_
    refine PW.icmp_ne (tgt := 46) dX5_free_23 (by decide) (fun h23 => ?_) (fun h23 => ?_)
    · refine PW.iinc (v := nI (s + 1)) dX5_free_46 rfl (nI_1 s) (by decide) rfl ?_
      refine PW.goto (tgt := 2) dX5_free_49 (by decide) ?_
      exact ih (s + 1) (by omega) (by rw [← hr, ff, if_neg (by simp [h23])])
    · refine PW.aload_n (i := 0) dX5_free_26 rfl rfl ?_
      refine PW.getf FX5_free_53 dX5_free_27 sm_mod rfl ?_
      refine PW.bipush (v := 8) dX5_free_30 (by decide) ?_
      refine PW.iload_n (i := 2) dX5_free_32 rfl rfl ?_
      refine PW.bipush (v := 6) dX5_free_33 (by decide) ?_
      refine PW.idiv dX5_free_35 (by decide) ?_
      refine PW.imul dX5_free_36 ?_
      refine PW.iload_n (i := 3) dX5_free_37 rfl rfl ?_
      refine PW.iadd dX5_free_38 ?_
      refine PW.iald dX5_free_39 ma_slots (ix8 hb) (by omega) (mg_slots (u6 hb) hs9) ?_
      refine PW.iconst (v := (-1)) dX5_free_40 (by decide) ?_
      refine PW.icmp_ne (tgt := 46) dX5_free_41 (by decide) (fun h41 => ?_) (fun h41 => ?_)
      · refine PW.iinc (v := nI (s + 1)) dX5_free_46 rfl (nI_1 s) (by decide) rfl ?_
        refine PW.goto (tgt := 2) dX5_free_49 (by decide) ?_
        exact ih (s + 1) (by omega) (by rw [← hr, ff, if_neg (by simp [h23, h41])])
      · refine PW.iload_n (i := 3) dX5_free_44 rfl rfl ?_
        exact PW.iret dX5_free_45 rfl ⟨by rw [← hr, ff, if_pos ⟨h23, h41⟩], rfl⟩ (by decide) (by decide)
set_option maxRecDepth 100000 in
set_option maxHeartbeats 4000000 in
theorem c5_free {M N : dM} {R : pM} {a b : Nat} (ha : a < 24) (hb : b < 24) (l9 : Launch) : pMet l9 yX5_free kX5_free false [.ref 44, .int (nI a), .int (nI b)] (SM M ++ (MM N ++ R)) (fun v m9 => v = some (.int (f_free N a b)) ∧ m9 = SM M ++ (MM (N) ++ R)) (fun _ _ => False) := by
  refine pMet.of (by decide) rfl rfl rfl (by intro v hv; simp only [List.mem_cons, List.not_mem_nil, or_false] at hv; rcases hv with rfl | rfl | rfl <;> rfl) (Nat.le_of_ble_eq_true rfl) ?_
  show PW _ _ _ _ _ 0 [some (.ref 44), some (.int (nI a)), some (.int (nI b)), none] [] (SM M ++ (MM N ++ R)) 0 0
  refine PW.iconst (v := 0) dX5_free_0 (by decide) ?_
  refine PW.istore_n (i := 3) dX5_free_1 rfl (by decide) rfl ?_
  exact fr5_loop ha hb 8 0 rfl rfl
set_option maxRecDepth 100000 in
set_option maxHeartbeats 4000000 in
theorem c5_use {M N : dM} {R : pM} {a b t : Nat} (ha : a < 24) (hb : b < 24) (ht : t < 8) (w : Int32) (l9 : Launch) : pMet l9 yX5_use kX5_use false [.ref 44, .int (nI a), .int (nI b), .int (nI t), .int w] (SM M ++ (MM N ++ R)) (fun v m9 => v = none ∧ m9 = SM M ++ (MM (f_mark N a b t w) ++ R)) (fun _ _ => False) := by
  refine pMet.of (by decide) rfl rfl rfl (by intro v hv; simp only [List.mem_cons, List.not_mem_nil, or_false] at hv; rcases hv with rfl | rfl | rfl | rfl | rfl <;> rfl) (Nat.le_of_ble_eq_true rfl) ?_
  show PW _ _ _ _ _ 0 [some (.ref 44), some (.int (nI a)), some (.int (nI b)), some (.int (nI t)), some (.int w)] [] (SM M ++ (MM N ++ R)) 0 0
  refine PW.aload_n (i := 0) dX5_use_0 rfl rfl ?_
  refine PW.getf FX5_use_53 dX5_use_1 sm_mod rfl ?_
  refine PW.bipush (v := 8) dX5_use_4 (by decide) ?_
  refine PW.iload_n (i := 1) dX5_use_6 rfl rfl ?_
  refine PW.bipush (v := 6) dX5_use_7 (by decide) ?_
  refine PW.idiv dX5_use_9 (by decide) ?_
  refine PW.imul dX5_use_10 ?_
  refine PW.iload_n (i := 3) dX5_use_11 rfl rfl ?_
  refine PW.iadd dX5_use_12 ?_
  refine PW.iload dX5_use_13 rfl ?_
  refine PW.iast dX5_use_15 ma_slots (ix8 ha) (by omega) (by rw [maF_len]; show _ < 32; omega) (pm_slots (u6 ha) ht) ?_
  refine PW.aload_n (i := 0) dX5_use_16 rfl rfl ?_
  refine PW.getf FX5_use_53 dX5_use_17 sm_mod rfl ?_
  refine PW.bipush (v := 8) dX5_use_20 (by decide) ?_
  refine PW.iload_n (i := 2) dX5_use_22 rfl rfl ?_
  refine PW.bipush (v := 6) dX5_use_23 (by decide) ?_
  refine PW.idiv dX5_use_25 (by decide) ?_
  refine PW.imul dX5_use_26 ?_
  refine PW.iload_n (i := 3) dX5_use_27 rfl rfl ?_
  refine PW.iadd dX5_use_28 ?_
  refine PW.iload dX5_use_29 rfl ?_
  refine PW.iast dX5_use_31 ma_slots (ix8 hb) (by omega) (by rw [maF_len]; show _ < 32; omega) (pm_slots (u6 hb) ht) ?_
  exact PW.vret dX5_use_32 rfl ⟨rfl, rfl⟩ (by decide) (by decide)
theorem mnI_le {a b : Nat} (ha : a < 24) (hb : b < 24) (h : nI b ≤ nI a) : mnI a b = nI b := by
  have h2 : b ≤ a := by
    rcases Nat.lt_or_ge a b with q | q
    · exact absurd h (Int32.not_le.mpr (nI_lt q (by omega)))
    · exact q
  unfold mnI
  split
  · rfl
  · next q =>
    rcases Nat.lt_or_ge b a with q2 | q2
    · exact absurd (nI_lt q2 (by omega)) q
    · rw [show a = b by omega]
theorem mnI_lt {a b : Nat} (h : ¬ nI b ≤ nI a) : mnI a b = nI a := by
  unfold mnI
  rw [if_neg (fun q => h (Int32.le_of_lt q))]
theorem nI_ne_m1 {t : Nat} (h : t < 2 ^ 31) : ¬ nI t = -1 := fun q => nI_pos h (by rw [q]; decide)
set_option maxRecDepth 100000 in
set_option maxHeartbeats 4000000 in
theorem c5_take {M N : dM} {R : pM} {a b : Nat} (ha : a < 24) (hb : b < 24) (l9 : Launch) : pMet l9 yX5_take kX5_take false [.ref 44, .int (nI a), .int (nI b)] (SM M ++ (MM N ++ R)) (fun v m9 => v = some (.int (f_free N a b)) ∧ m9 = SM M ++ (MM (f_take N a b) ++ R)) (fun _ _ => False) := by
  refine pMet.of (by decide) rfl rfl rfl (by intro v hv; simp only [List.mem_cons, List.not_mem_nil, or_false] at hv; rcases hv with rfl | rfl | rfl <;> rfl) (Nat.le_of_ble_eq_true rfl) ?_
  show PW _ _ _ _ _ 0 [some (.ref 44), some (.int (nI a)), some (.int (nI b)), none] [] (SM M ++ (MM N ++ R)) 0 0
  refine PW.aload_n (i := 0) dX5_take_0 rfl rfl ?_
  refine PW.iload_n (i := 1) dX5_take_1 rfl rfl ?_
  refine PW.iload_n (i := 2) dX5_take_2 rfl rfl ?_
  refine PW.callV (k := kX5_take) (n := 2) (c5_free ha hb) dX5_take_3 gX5_take_X5_free rfl hd_X5_free rfl ⟨by decide, by decide⟩ ⟨rfl, rfl⟩ (Nat.le_of_ble_eq_true rfl) ⟨by decide, by decide⟩ sm_mod (by decide) rfl rfl (fun v m9 hp => ?_) (fun _ _ hx => hx.elim)
  obtain ⟨rfl, rfl⟩ := hp
  refine PW.istore_n (i := 3) dX5_take_6 rfl (by decide) rfl ?_
  refine PW.iload_n (i := 3) dX5_take_7 rfl rfl ?_
  refine PW.if_lt (tgt := 28) dX5_take_8 (by decide) (fun h8 => ?_) (fun h8 => ?_)
  · refine PW.iload_n (i := 3) dX5_take_28 rfl rfl ?_
    exact PW.iret dX5_take_29 rfl ⟨rfl, by rw [f_take, if_pos]; rcases f_free_cases N a b with q | ⟨t, ht, et⟩; exact q; rw [et] at h8; exact absurd h8 (nI_pos (by omega))⟩ (by decide) (by decide)
  · obtain ⟨t, ht, et⟩ := (f_free_cases N a b).resolve_left (fun q => by rw [q] at h8; exact h8 (by decide))
    rw [et]
    have e9 : f_take N a b = f_mark N a b t (mnI a b) := by rw [f_take, et, if_neg (nI_ne_m1 (by omega)), nI_clamp (by omega)]
    refine PW.aload_n (i := 0) dX5_take_11 rfl rfl ?_
    refine PW.iload_n (i := 1) dX5_take_12 rfl rfl ?_
    refine PW.iload_n (i := 2) dX5_take_13 rfl rfl ?_
    refine PW.iload_n (i := 3) dX5_take_14 rfl rfl ?_
    refine PW.iload_n (i := 1) dX5_take_15 rfl rfl ?_
    refine PW.iload_n (i := 2) dX5_take_16 rfl rfl ?_
    refine PW.icmp_ge (tgt := 24) dX5_take_17 (by decide) (fun h17 => ?_) (fun h17 => ?_)
    · rw [mnI_le ha hb h17] at e9
      refine PW.iload_n (i := 2) dX5_take_24 rfl rfl ?_
      refine PW.callV (k := kX5_take) (n := 4) (c5_use ha hb ht _) dX5_take_25 gX5_take_X5_use rfl hd_X5_use rfl ⟨by decide, by decide⟩ ⟨rfl, rfl⟩ (Nat.le_of_ble_eq_true rfl) ⟨by decide, by decide⟩ sm_mod (by decide) rfl rfl (fun v m9 hp => ?_) (fun _ _ hx => hx.elim)
      obtain ⟨rfl, rfl⟩ := hp
      refine PW.iload_n (i := 3) dX5_take_28 rfl rfl ?_
      exact PW.iret dX5_take_29 rfl ⟨rfl, by rw [e9]⟩ (by decide) (by decide)
    · rw [mnI_lt h17] at e9
      refine PW.iload_n (i := 1) dX5_take_20 rfl rfl ?_
      refine PW.goto (tgt := 25) dX5_take_21 (by decide) ?_
      refine PW.callV (k := kX5_take) (n := 4) (c5_use ha hb ht _) dX5_take_25 gX5_take_X5_use rfl hd_X5_use rfl ⟨by decide, by decide⟩ ⟨rfl, rfl⟩ (Nat.le_of_ble_eq_true rfl) ⟨by decide, by decide⟩ sm_mod (by decide) rfl rfl (fun v m9 hp => ?_) (fun _ _ hx => hx.elim)
      obtain ⟨rfl, rfl⟩ := hp
      refine PW.iload_n (i := 3) dX5_take_28 rfl rfl ?_
      exact PW.iret dX5_take_29 rfl ⟨rfl, by rw [e9]⟩ (by decide) (by decide)
def g_bec0 (N : dM) (l : Nat) (s : Int32) : dM := up2 (up2 (up2 N l 1 s) l 2 (up2 N l 1 s 39 5)) l 5 (-1)
def g_bec (N : dM) (l : Nat) (s : Int32) : dM := if s = 0 then up2 (up2 (up2 (g_bec0 N l s) l 11 (g_bec0 N l s 39 5)) l 3 (-1)) l 4 (-1) else g_bec0 N l s
def g_busy (N : dM) (l : Nat) : dM := up2 (up2 (g_bec N l 5) l 3 (-1)) l 4 (-1)
set_option maxRecDepth 100000 in
set_option maxHeartbeats 4000000 in
theorem c5_become {M N : dM} {R : pM} {l : Nat} (hl : l < 24) (s : Int32) (l9 : Launch) : pMet l9 yX5_become kX5_become false [.ref 44, .int (nI l), .int s] (SM M ++ (MM N ++ R)) (fun v m9 => v = none ∧ m9 = SM M ++ (MM (g_bec N l s) ++ R)) (fun _ _ => False) := by
  refine pMet.of (by decide) rfl rfl rfl (by intro v hv; simp only [List.mem_cons, List.not_mem_nil, or_false] at hv; rcases hv with rfl | rfl | rfl <;> rfl) (Nat.le_of_ble_eq_true rfl) ?_
  show PW _ _ _ _ _ 0 [some (.ref 44), some (.int (nI l)), some (.int s)] [] (SM M ++ (MM N ++ R)) 0 0
  refine PW.aload_n (i := 0) dX5_become_0 rfl rfl ?_
  refine PW.getf FX5_become_7 dX5_become_1 sm_mod rfl ?_
  refine PW.iload_n (i := 1) dX5_become_4 rfl rfl ?_
  refine PW.iload_n (i := 2) dX5_become_5 rfl rfl ?_
  refine PW.iast dX5_become_6 ma_state rfl (Nat.lt_trans hl (by decide)) (by rw [maF_len]; exact hl)  (pm_state hl) ?_
  refine PW.aload_n (i := 0) dX5_become_7 rfl rfl ?_
  refine PW.getf FX5_become_13 dX5_become_8 sm_mod rfl ?_
  refine PW.iload_n (i := 1) dX5_become_11 rfl rfl ?_
  refine PW.aload_n (i := 0) dX5_become_12 rfl rfl ?_
  refine PW.getf FX5_become_87 dX5_become_13 sm_mod rfl ?_
  refine PW.iast dX5_become_16 ma_since rfl (Nat.lt_trans hl (by decide)) (by rw [maF_len]; exact hl)  (pm_since hl) ?_
  refine PW.aload_n (i := 0) dX5_become_17 rfl rfl ?_
  refine PW.getf FX5_become_31 dX5_become_18 sm_mod rfl ?_
  refine PW.iload_n (i := 1) dX5_become_21 rfl rfl ?_
  refine PW.iconst (v := (-1)) dX5_become_22 (by decide) ?_
  refine PW.iast dX5_become_23 ma_late rfl (Nat.lt_trans hl (by decide)) (by rw [maF_len]; exact hl)  (pm_late hl) ?_
  refine PW.iload_n (i := 2) dX5_become_24 rfl rfl ?_
  refine PW.if_eq (tgt := 29) dX5_become_25 (by decide) (fun h25 => ?_) (fun h25 => ?_)
  · refine PW.aload_n (i := 0) dX5_become_29 rfl rfl ?_
    refine PW.getf FX5_become_16 dX5_become_30 sm_mod rfl ?_
    refine PW.iload_n (i := 1) dX5_become_33 rfl rfl ?_
    refine PW.aload_n (i := 0) dX5_become_34 rfl rfl ?_
    refine PW.getf FX5_become_87 dX5_become_35 sm_mod rfl ?_
    refine PW.iast dX5_become_38 ma_idleSince rfl (Nat.lt_trans hl (by decide)) (by rw [maF_len]; exact hl)  (pm_idleSince hl) ?_
    refine PW.aload_n (i := 0) dX5_become_39 rfl rfl ?_
    refine PW.getf FX5_become_22 dX5_become_40 sm_mod rfl ?_
    refine PW.iload_n (i := 1) dX5_become_43 rfl rfl ?_
    refine PW.iconst (v := (-1)) dX5_become_44 (by decide) ?_
    refine PW.iast dX5_become_45 ma_other rfl (Nat.lt_trans hl (by decide)) (by rw [maF_len]; exact hl)  (pm_other hl) ?_
    refine PW.aload_n (i := 0) dX5_become_46 rfl rfl ?_
    refine PW.getf FX5_become_25 dX5_become_47 sm_mod rfl ?_
    refine PW.iload_n (i := 1) dX5_become_50 rfl rfl ?_
    refine PW.iconst (v := (-1)) dX5_become_51 (by decide) ?_
    refine PW.iast dX5_become_52 ma_slotOf rfl (Nat.lt_trans hl (by decide)) (by rw [maF_len]; exact hl)  (pm_slotOf hl) ?_
    exact PW.vret dX5_become_53 rfl ⟨rfl, by rw [g_bec, if_pos h25]; rfl⟩ (by decide) (by decide)
  · exact PW.vret dX5_become_28 rfl ⟨rfl, by rw [g_bec, if_neg h25]; rfl⟩ (by decide) (by decide)
set_option maxRecDepth 100000 in
set_option maxHeartbeats 4000000 in
theorem c5_busy {M N : dM} {R : pM} {l : Nat} (hl : l < 24) (l9 : Launch) : pMet l9 yX5_busy kX5_busy false [.ref 44, .int (nI l)] (SM M ++ (MM N ++ R)) (fun v m9 => v = none ∧ m9 = SM M ++ (MM (g_busy N l) ++ R)) (fun _ _ => False) := by
  refine pMet.of (by decide) rfl rfl rfl (by intro v hv; simp only [List.mem_cons, List.not_mem_nil, or_false] at hv; rcases hv with rfl | rfl <;> rfl) (Nat.le_of_ble_eq_true rfl) ?_
  show PW _ _ _ _ _ 0 [some (.ref 44), some (.int (nI l))] [] (SM M ++ (MM N ++ R)) 0 0
  refine PW.aload_n (i := 0) dX5_busy_0 rfl rfl ?_
  refine PW.iload_n (i := 1) dX5_busy_1 rfl rfl ?_
  refine PW.iconst (v := 5) dX5_busy_2 (by decide) ?_
  refine PW.callV (k := kX5_busy) (n := 2) (c5_become hl _) dX5_busy_3 gX5_busy_X5_become rfl hd_X5_become rfl ⟨by decide, by decide⟩ ⟨rfl, rfl⟩ (Nat.le_of_ble_eq_true rfl) ⟨by decide, by decide⟩ sm_mod (by decide) rfl rfl (fun v m9 hp => ?_) (fun _ _ hx => hx.elim)
  obtain ⟨rfl, rfl⟩ := hp
  refine PW.aload_n (i := 0) dX5_busy_6 rfl rfl ?_
  refine PW.getf FX5_busy_22 dX5_busy_7 sm_mod rfl ?_
  refine PW.iload_n (i := 1) dX5_busy_10 rfl rfl ?_
  refine PW.iconst (v := (-1)) dX5_busy_11 (by decide) ?_
  refine PW.iast dX5_busy_12 ma_other rfl (Nat.lt_trans hl (by decide)) (by rw [maF_len]; exact hl)  (pm_other hl) ?_
  refine PW.aload_n (i := 0) dX5_busy_13 rfl rfl ?_
  refine PW.getf FX5_busy_25 dX5_busy_14 sm_mod rfl ?_
  refine PW.iload_n (i := 1) dX5_busy_17 rfl rfl ?_
  refine PW.iconst (v := (-1)) dX5_busy_18 (by decide) ?_
  refine PW.iast dX5_busy_19 ma_slotOf rfl (Nat.lt_trans hl (by decide)) (by rw [maF_len]; exact hl)  (pm_slotOf hl) ?_
  exact PW.vret dX5_busy_20 rfl ⟨rfl, rfl⟩ (by decide) (by decide)
def g_rg1 (N : dM) (c l : Nat) (s : Int32) : dM := up2 (up2 (g_bec N l 4) l 3 (nI c)) l 4 s
def g_rg2 (N : dM) (c l : Nat) (s : Int32) : dM := up2 (g_rg1 N c l s) l 12 (g_rg1 N c l s 39 8)
def g_rg3 (N : dM) (c l : Nat) (s : Int32) : dM := up2 (g_rg2 N c l s) 39 8 (g_rg2 N c l s 39 8 + 1)
def g_ring (N : dM) (c l : Nat) (s : Int32) : dM := if g_rg3 N c l s c 1 = 3 then g_rg3 N c l s else g_bec (g_rg3 N c l s) c 3
set_option maxRecDepth 100000 in
set_option maxHeartbeats 4000000 in
theorem c5_ring {M N : dM} {R : pM} {c l : Nat} (hc : c < 24) (hl : l < 24) (s : Int32) (l9 : Launch) : pMet l9 yX5_ring kX5_ring false [.ref 44, .int (nI c), .int (nI l), .int s] (SM M ++ (MM N ++ R)) (fun v m9 => v = none ∧ m9 = SM M ++ (MM (g_ring N c l s) ++ R)) (fun _ _ => False) := by
  refine pMet.of (by decide) rfl rfl rfl (by intro v hv; simp only [List.mem_cons, List.not_mem_nil, or_false] at hv; rcases hv with rfl | rfl | rfl | rfl <;> rfl) (Nat.le_of_ble_eq_true rfl) ?_
  show PW _ _ _ _ _ 0 [some (.ref 44), some (.int (nI c)), some (.int (nI l)), some (.int s)] [] (SM M ++ (MM N ++ R)) 0 0
  refine PW.aload_n (i := 0) dX5_ring_0 rfl rfl ?_
  refine PW.iload_n (i := 2) dX5_ring_1 rfl rfl ?_
  refine PW.iconst (v := 4) dX5_ring_2 (by decide) ?_
  refine PW.callV (k := kX5_ring) (n := 2) (c5_become hl _) dX5_ring_3 gX5_ring_X5_become rfl hd_X5_become rfl ⟨by decide, by decide⟩ ⟨rfl, rfl⟩ (Nat.le_of_ble_eq_true rfl) ⟨by decide, by decide⟩ sm_mod (by decide) rfl rfl (fun v m9 hp => ?_) (fun _ _ hx => hx.elim)
  obtain ⟨rfl, rfl⟩ := hp
  refine PW.aload_n (i := 0) dX5_ring_6 rfl rfl ?_
  refine PW.getf FX5_ring_22 dX5_ring_7 sm_mod rfl ?_
  refine PW.iload_n (i := 2) dX5_ring_10 rfl rfl ?_
  refine PW.iload_n (i := 1) dX5_ring_11 rfl rfl ?_
  refine PW.iast dX5_ring_12 ma_other rfl (Nat.lt_trans hl (by decide)) (by rw [maF_len]; exact hl)  (pm_other hl) ?_
  refine PW.aload_n (i := 0) dX5_ring_13 rfl rfl ?_
  refine PW.getf FX5_ring_25 dX5_ring_14 sm_mod rfl ?_
  refine PW.iload_n (i := 2) dX5_ring_17 rfl rfl ?_
  refine PW.iload_n (i := 3) dX5_ring_18 rfl rfl ?_
  refine PW.iast dX5_ring_19 ma_slotOf rfl (Nat.lt_trans hl (by decide)) (by rw [maF_len]; exact hl)  (pm_slotOf hl) ?_
  refine PW.aload_n (i := 0) dX5_ring_20 rfl rfl ?_
  refine PW.getf FX5_ring_28 dX5_ring_21 sm_mod rfl ?_
  refine PW.iload_n (i := 2) dX5_ring_24 rfl rfl ?_
  refine PW.aload_n (i := 0) dX5_ring_25 rfl rfl ?_
  refine PW.getf FX5_ring_94 dX5_ring_26 sm_mod rfl ?_
  refine PW.iast dX5_ring_29 ma_rank rfl (Nat.lt_trans hl (by decide)) (by rw [maF_len]; exact hl)  (pm_rank hl) ?_
  refine PW.aload_n (i := 0) dX5_ring_30 rfl rfl ?_
  refine PW.dup dX5_ring_31 rfl ?_
  refine PW.getf FX5_ring_94 dX5_ring_32 sm_mod rfl ?_
  refine PW.iconst (v := 1) dX5_ring_35 (by decide) ?_
  refine PW.iadd dX5_ring_36 ?_
  refine PW.putf FX5_ring_94 (Fw_5_9 _) dX5_ring_37 sm_mod (Nat.le_of_ble_eq_true rfl) (fun _ => rfl) (fun _ => rfl) pm_ranks ?_
  refine PW.aload_n (i := 0) dX5_ring_40 rfl rfl ?_
  refine PW.getf FX5_ring_7 dX5_ring_41 sm_mod rfl ?_
  refine PW.iload_n (i := 1) dX5_ring_44 rfl rfl ?_
  refine PW.iald dX5_ring_45 ma_state rfl (Nat.lt_trans hc (by decide)) (mg_state hc) ?_
  refine PW.iconst (v := 3) dX5_ring_46 (by decide) ?_
  refine PW.icmp_eq (tgt := 56) dX5_ring_47 (by decide) (fun h47 => ?_) (fun h47 => ?_)
  · exact PW.vret dX5_ring_56 rfl ⟨rfl, by first | (have q : g_rg3 N c l s c 1 = 3 := h47; rw [g_ring, if_pos q]; rfl) | (have q : ¬ g_rg3 N c l s c 1 = 3 := h47; rw [g_ring, if_neg q]; rfl)⟩ (by decide) (by decide)
  · refine PW.aload_n (i := 0) dX5_ring_50 rfl rfl ?_
    refine PW.iload_n (i := 1) dX5_ring_51 rfl rfl ?_
    refine PW.iconst (v := 3) dX5_ring_52 (by decide) ?_
    refine PW.callV (k := kX5_ring) (n := 2) (c5_become hc _) dX5_ring_53 gX5_ring_X5_become rfl hd_X5_become rfl ⟨by decide, by decide⟩ ⟨rfl, rfl⟩ (Nat.le_of_ble_eq_true rfl) ⟨by decide, by decide⟩ sm_mod (by decide) rfl rfl (fun v m9 hp => ?_) (fun _ _ hx => hx.elim)
    obtain ⟨rfl, rfl⟩ := hp
    exact PW.vret dX5_ring_56 rfl ⟨rfl, by first | (have q : g_rg3 N c l s c 1 = 3 := h47; rw [g_ring, if_pos q]; rfl) | (have q : ¬ g_rg3 N c l s c 1 = 3 := h47; rw [g_ring, if_neg q]; rfl)⟩ (by decide) (by decide)
def g_cn1 (N : dM) (c l : Nat) (s : Int32) : dM := up2 (up2 (up2 (up2 (up2 (up2 (g_bec (g_bec N c 6) l 6) c 3 (nI l)) l 3 (nI c)) c 4 s) l 4 s) c 7 1) l 7 0
def g_conn (N : dM) (c l : Nat) (s : Int32) : dM := up2 (g_cn1 N c l s) c 13 (g_cn1 N c l s 39 5)
set_option maxRecDepth 100000 in
set_option maxHeartbeats 4000000 in
theorem c5_connect {M N : dM} {R : pM} {c l : Nat} (hc : c < 24) (hl : l < 24) (s : Int32) (l9 : Launch) : pMet l9 yX5_connect kX5_connect false [.ref 44, .int (nI c), .int (nI l), .int s] (SM M ++ (MM N ++ R)) (fun v m9 => v = none ∧ m9 = SM M ++ (MM (g_conn N c l s) ++ R)) (fun _ _ => False) := by
  refine pMet.of (by decide) rfl rfl rfl (by intro v hv; simp only [List.mem_cons, List.not_mem_nil, or_false] at hv; rcases hv with rfl | rfl | rfl | rfl <;> rfl) (Nat.le_of_ble_eq_true rfl) ?_
  show PW _ _ _ _ _ 0 [some (.ref 44), some (.int (nI c)), some (.int (nI l)), some (.int s)] [] (SM M ++ (MM N ++ R)) 0 0
  refine PW.aload_n (i := 0) dX5_connect_0 rfl rfl ?_
  refine PW.iload_n (i := 1) dX5_connect_1 rfl rfl ?_
  refine PW.bipush (v := 6) dX5_connect_2 (by decide) ?_
  refine PW.callV (k := kX5_connect) (n := 2) (c5_become hc _) dX5_connect_4 gX5_connect_X5_become rfl hd_X5_become rfl ⟨by decide, by decide⟩ ⟨rfl, rfl⟩ (Nat.le_of_ble_eq_true rfl) ⟨by decide, by decide⟩ sm_mod (by decide) rfl rfl (fun v m9 hp => ?_) (fun _ _ hx => hx.elim)
  obtain ⟨rfl, rfl⟩ := hp
  refine PW.aload_n (i := 0) dX5_connect_7 rfl rfl ?_
  refine PW.iload_n (i := 2) dX5_connect_8 rfl rfl ?_
  refine PW.bipush (v := 6) dX5_connect_9 (by decide) ?_
  refine PW.callV (k := kX5_connect) (n := 2) (c5_become hl _) dX5_connect_11 gX5_connect_X5_become rfl hd_X5_become rfl ⟨by decide, by decide⟩ ⟨rfl, rfl⟩ (Nat.le_of_ble_eq_true rfl) ⟨by decide, by decide⟩ sm_mod (by decide) rfl rfl (fun v m9 hp => ?_) (fun _ _ hx => hx.elim)
  obtain ⟨rfl, rfl⟩ := hp
  refine PW.aload_n (i := 0) dX5_connect_14 rfl rfl ?_
  refine PW.getf FX5_connect_22 dX5_connect_15 sm_mod rfl ?_
  refine PW.iload_n (i := 1) dX5_connect_18 rfl rfl ?_
  refine PW.iload_n (i := 2) dX5_connect_19 rfl rfl ?_
  refine PW.iast dX5_connect_20 ma_other rfl (Nat.lt_trans hc (by decide)) (by rw [maF_len]; exact hc)  (pm_other hc) ?_
  refine PW.aload_n (i := 0) dX5_connect_21 rfl rfl ?_
  refine PW.getf FX5_connect_22 dX5_connect_22 sm_mod rfl ?_
  refine PW.iload_n (i := 2) dX5_connect_25 rfl rfl ?_
  refine PW.iload_n (i := 1) dX5_connect_26 rfl rfl ?_
  refine PW.iast dX5_connect_27 ma_other rfl (Nat.lt_trans hl (by decide)) (by rw [maF_len]; exact hl)  (pm_other hl) ?_
  refine PW.aload_n (i := 0) dX5_connect_28 rfl rfl ?_
  refine PW.getf FX5_connect_25 dX5_connect_29 sm_mod rfl ?_
  refine PW.iload_n (i := 1) dX5_connect_32 rfl rfl ?_
  refine PW.iload_n (i := 3) dX5_connect_33 rfl rfl ?_
  refine PW.iast dX5_connect_34 ma_slotOf rfl (Nat.lt_trans hc (by decide)) (by rw [maF_len]; exact hc)  (pm_slotOf hc) ?_
  refine PW.aload_n (i := 0) dX5_connect_35 rfl rfl ?_
  refine PW.getf FX5_connect_25 dX5_connect_36 sm_mod rfl ?_
  refine PW.iload_n (i := 2) dX5_connect_39 rfl rfl ?_
  refine PW.iload_n (i := 3) dX5_connect_40 rfl rfl ?_
  refine PW.iast dX5_connect_41 ma_slotOf rfl (Nat.lt_trans hl (by decide)) (by rw [maF_len]; exact hl)  (pm_slotOf hl) ?_
  refine PW.aload_n (i := 0) dX5_connect_42 rfl rfl ?_
  refine PW.getf FX5_connect_41 dX5_connect_43 sm_mod rfl ?_
  refine PW.iload_n (i := 1) dX5_connect_46 rfl rfl ?_
  refine PW.iconst (v := 1) dX5_connect_47 (by decide) ?_
  refine PW.zast dX5_connect_48 ma_pays rfl (Nat.lt_trans hc (by decide)) (by rw [maF_len]; exact hc) (by decide) (pm_pays hc) ?_
  refine PW.aload_n (i := 0) dX5_connect_49 rfl rfl ?_
  refine PW.getf FX5_connect_41 dX5_connect_50 sm_mod rfl ?_
  refine PW.iload_n (i := 2) dX5_connect_53 rfl rfl ?_
  refine PW.iconst (v := 0) dX5_connect_54 (by decide) ?_
  refine PW.zast dX5_connect_55 ma_pays rfl (Nat.lt_trans hl (by decide)) (by rw [maF_len]; exact hl) (by decide) (pm_pays hl) ?_
  refine PW.aload_n (i := 0) dX5_connect_56 rfl rfl ?_
  refine PW.getf FX5_connect_44 dX5_connect_57 sm_mod rfl ?_
  refine PW.iload_n (i := 1) dX5_connect_60 rfl rfl ?_
  refine PW.aload_n (i := 0) dX5_connect_61 rfl rfl ?_
  refine PW.getf FX5_connect_87 dX5_connect_62 sm_mod rfl ?_
  refine PW.iast dX5_connect_65 ma_begun rfl (Nat.lt_trans hc (by decide)) (by rw [maF_len]; exact hc)  (pm_begun hc) ?_
  exact PW.vret dX5_connect_66 rfl ⟨rfl, rfl⟩ (by decide) (by decide)
def g_units (N : dM) (l : Nat) : Int32 := 1 + (N 39 5 - N l 13) / 60
set_option maxRecDepth 100000 in
set_option maxHeartbeats 4000000 in
theorem c5_unitsOf {M N : dM} {R : pM} {l : Nat} (hl : l < 24) (l9 : Launch) : pMet l9 yX5_unitsOf kX5_unitsOf false [.ref 44, .int (nI l)] (SM M ++ (MM N ++ R)) (fun v m9 => v = some (.int (g_units N l)) ∧ m9 = SM M ++ (MM (N) ++ R)) (fun _ _ => False) := by
  refine pMet.of (by decide) rfl rfl rfl (by intro v hv; simp only [List.mem_cons, List.not_mem_nil, or_false] at hv; rcases hv with rfl | rfl <;> rfl) (Nat.le_of_ble_eq_true rfl) ?_
  show PW _ _ _ _ _ 0 [some (.ref 44), some (.int (nI l))] [] (SM M ++ (MM N ++ R)) 0 0
  refine PW.iconst (v := 1) dX5_unitsOf_0 (by decide) ?_
  refine PW.aload_n (i := 0) dX5_unitsOf_1 rfl rfl ?_
  refine PW.getf FX5_unitsOf_87 dX5_unitsOf_2 sm_mod rfl ?_
  refine PW.aload_n (i := 0) dX5_unitsOf_5 rfl rfl ?_
  refine PW.getf FX5_unitsOf_44 dX5_unitsOf_6 sm_mod rfl ?_
  refine PW.iload_n (i := 1) dX5_unitsOf_9 rfl rfl ?_
  refine PW.iald dX5_unitsOf_10 ma_begun rfl (Nat.lt_trans hl (by decide)) (mg_begun hl) ?_
  refine PW.isub dX5_unitsOf_11 ?_
  refine PW.bipush (v := 60) dX5_unitsOf_12 (by decide) ?_
  refine PW.idiv dX5_unitsOf_14 (by decide) ?_
  refine PW.iadd dX5_unitsOf_15 ?_
  exact PW.iret dX5_unitsOf_16 rfl ⟨rfl, rfl⟩ (by decide) (by decide)
theorem nI_eq24 {a b : Nat} (ha : a < 24) (hb : b < 24) (h : nI a = nI b) : a = b := by
  have h2 := congrArg Int32.toNatClampNeg h
  rw [nI_clamp (by omega), nI_clamp (by omega)] at h2
  exact h2
set_option maxRecDepth 100000 in
set_option maxHeartbeats 4000000 in
theorem c5_mayRing {M N : dM} {R : pM} {c l : Nat} (hc : c < 24) (hl : l < 24) (l9 : Launch) : pMet l9 yX5_mayRing kX5_mayRing false [.ref 44, .int (nI c), .int (nI l)] (SM M ++ (MM N ++ R)) (fun v m9 => v = some (.int (b2i (f_will N c l))) ∧ m9 = SM M ++ (MM (N) ++ R)) (fun _ _ => False) := by
  refine pMet.of (by decide) rfl rfl rfl (by intro v hv; simp only [List.mem_cons, List.not_mem_nil, or_false] at hv; rcases hv with rfl | rfl | rfl <;> rfl) (Nat.le_of_ble_eq_true rfl) ?_
  show PW _ _ _ _ _ 0 [some (.ref 44), some (.int (nI c)), some (.int (nI l))] [] (SM M ++ (MM N ++ R)) 0 0
  refine PW.aload_n (i := 0) dX5_mayRing_0 rfl rfl ?_
  refine PW.getf FX5_mayRing_7 dX5_mayRing_1 sm_mod rfl ?_
  refine PW.iload_n (i := 2) dX5_mayRing_4 rfl rfl ?_
  refine PW.iald dX5_mayRing_5 ma_state rfl (Nat.lt_trans hl (by decide)) (mg_state hl) ?_
  refine PW.if_ne (tgt := 27) dX5_mayRing_6 (by decide) (fun h6 => ?_) (fun h6 => ?_)
  · refine PW.iconst (v := 0) dX5_mayRing_27 (by decide) ?_
    exact PW.zret (v := 0) dX5_mayRing_28 rfl rfl ⟨by simp [f_will, b2i, h6], rfl⟩ (by decide) (by decide)
  · refine PW.aload_n (i := 0) dX5_mayRing_9 rfl rfl ?_
    refine PW.getf FX5_mayRing_34 dX5_mayRing_10 sm_mod rfl ?_
    refine PW.iload_n (i := 2) dX5_mayRing_13 rfl rfl ?_
    refine PW.zald dX5_mayRing_14 ma_quiet rfl (Nat.lt_trans hl (by decide)) (mg_quiet hl) ?_
    refine PW.if_ne (tgt := 27) dX5_mayRing_15 (by decide) (fun h15 => ?_) (fun h15 => ?_)
    · refine PW.iconst (v := 0) dX5_mayRing_27 (by decide) ?_
      exact PW.zret (v := 0) dX5_mayRing_28 rfl rfl ⟨by simp [f_will, b2i, h6, h15], rfl⟩ (by decide) (by decide)
    · refine PW.iload_n (i := 2) dX5_mayRing_18 rfl rfl ?_
      refine PW.iload_n (i := 1) dX5_mayRing_19 rfl rfl ?_
      refine PW.icmp_eq (tgt := 27) dX5_mayRing_20 (by decide) (fun h20 => ?_) (fun h20 => ?_)
      · refine PW.iconst (v := 0) dX5_mayRing_27 (by decide) ?_
        have h21 : l = c := nI_eq24 hl hc h20; exact PW.zret (v := 0) dX5_mayRing_28 rfl rfl ⟨by simp [f_will, b2i, h6, h15, h21], rfl⟩ (by decide) (by decide)
      · refine PW.iconst (v := 1) dX5_mayRing_23 (by decide) ?_
        refine PW.goto (tgt := 28) dX5_mayRing_24 (by decide) ?_
        have h21 : ¬ l = c := fun q => h20 (by rw [q]); exact PW.zret (v := 1) dX5_mayRing_28 rfl rfl ⟨by simp [f_will, b2i, h6, h15, h21], rfl⟩ (by decide) (by decide)
