set_option maxRecDepth 100000 in
set_option maxHeartbeats 4000000 in
theorem pi_end {M N : dM} {R : pM} {n0 c : Nat} {f : Int32} {w3 w4 : Option Value} (hc : c < 24) (hR : RS N) (hf : f = -1 ∨ ∃ q, q < 24 ∧ f = nI q ∧ N q 1 = 4) : PW kX5_pick false n0 (fun v m9 => v = none ∧ m9 = SM M ++ (MM (if f < 0 then g_busy N c else g_pick1 N (N f.toNatClampNeg 3).toNatClampNeg c) ++ R)) (fun _ _ => False) 77 [some (.ref 44), some (.int (nI c)), some (.int f), w3, w4] [] (SM M ++ (MM N ++ R)) 0 0 := by
  refine PW.iload_n (i := 2) dX5_pick_77 rfl rfl ?_
  refine PW.if_ge (tgt := 87) dX5_pick_78 (by decide) (fun h78 => ?_) (fun h78 => ?_)
  · obtain ⟨q, hq, rfl, hq4⟩ := hf.resolve_left (fun z => by rw [z] at h78; exact absurd h78 (by decide))
    obtain ⟨o, t, ho, ht, e3, e4⟩ := hR q hq hq4
    have c0 : ¬ nI q < 0 := nI_pos (by omega)
    have eG : (if nI q < 0 then g_busy N c else g_pick1 N (N (nI q).toNatClampNeg 3).toNatClampNeg c) = g_pick1 N o c := by rw [if_neg c0, nI_clamp (by omega), e3, nI_clamp (by omega)]
    rw [eG]
    refine PW.aload_n (i := 0) dX5_pick_87 rfl rfl ?_
    refine PW.getf FX5_pick_22 dX5_pick_88 sm_mod rfl ?_
    refine PW.iload_n (i := 2) dX5_pick_91 rfl rfl ?_
    refine PW.iald dX5_pick_92 ma_other rfl (Nat.lt_trans hq (by decide)) (mg_other hq) ?_
    rw [e3]
    refine PW.istore_n (i := 3) dX5_pick_93 rfl (by decide) rfl ?_
    refine PW.aload_n (i := 0) dX5_pick_94 rfl rfl ?_
    refine PW.iload_n (i := 3) dX5_pick_95 rfl rfl ?_
    refine PW.iconst (v := (-1)) dX5_pick_96 (by decide) ?_
    refine PW.callV (k := kX5_pick) (n := 2) (c5_hush ho _ hR) dX5_pick_97 gX5_pick_X5_hush rfl hd_X5_hush rfl ⟨by decide, by decide⟩ ⟨rfl, rfl⟩ (Nat.le_of_ble_eq_true rfl) ⟨by decide, by decide⟩ sm_mod (by decide) rfl rfl (fun v m9 hp => ?_) (fun _ _ hx => hx.elim)
    obtain ⟨rfl, rfl⟩ := hp
    refine PW.aload_n (i := 0) dX5_pick_100 rfl rfl ?_
    refine PW.iload_n (i := 3) dX5_pick_101 rfl rfl ?_
    refine PW.iload_n (i := 1) dX5_pick_102 rfl rfl ?_
    refine PW.callV (k := kX5_pick) (n := 2) (c5_take ho hc) dX5_pick_103 gX5_pick_X5_take rfl hd_X5_take rfl ⟨by decide, by decide⟩ ⟨rfl, rfl⟩ (Nat.le_of_ble_eq_true rfl) ⟨by decide, by decide⟩ sm_mod (by decide) rfl rfl (fun v m9 hp => ?_) (fun _ _ hx => hx.elim)
    obtain ⟨rfl, rfl⟩ := hp
    refine PW.istore dX5_pick_106 (by decide) rfl ?_
    refine PW.iload dX5_pick_108 rfl ?_
    refine PW.if_ge (tgt := 136) dX5_pick_110 (by decide) (fun h110 => ?_) (fun h110 => ?_)
    · refine PW.aload_n (i := 0) dX5_pick_136 rfl rfl ?_
      refine PW.iload_n (i := 3) dX5_pick_137 rfl rfl ?_
      refine PW.iload_n (i := 1) dX5_pick_138 rfl rfl ?_
      refine PW.iload dX5_pick_139 rfl ?_
      refine PW.callV (k := kX5_pick) (n := 3) (c5_connect ho hc _) dX5_pick_141 gX5_pick_X5_connect rfl hd_X5_connect rfl ⟨by decide, by decide⟩ ⟨rfl, rfl⟩ (Nat.le_of_ble_eq_true rfl) ⟨by decide, by decide⟩ sm_mod (by decide) rfl rfl (fun v m9 hp => ?_) (fun _ _ hx => hx.elim)
      obtain ⟨rfl, rfl⟩ := hp
      first | exact PW.vret dX5_pick_144 rfl ⟨rfl, by rw [g_pick1, if_pos (Int32.not_le.mp h110)]⟩ (by decide) (by decide) | exact PW.vret dX5_pick_144 rfl ⟨rfl, by rw [g_pick1, if_neg (Int32.not_lt.mpr h110)]⟩ (by decide) (by decide)
    · refine PW.aload_n (i := 0) dX5_pick_113 rfl rfl ?_
      refine PW.dup dX5_pick_114 rfl ?_
      refine PW.getf FX5_pick_123 dX5_pick_115 sm_mod rfl ?_
      refine PW.iconst (v := 1) dX5_pick_118 (by decide) ?_
      refine PW.iadd dX5_pick_119 ?_
      refine PW.putf FX5_pick_123 (Fw_5_22 _) dX5_pick_120 sm_mod (Nat.le_of_ble_eq_true rfl) (fun _ => rfl) (fun _ => rfl) pm_blocked ?_
      refine PW.aload_n (i := 0) dX5_pick_123 rfl rfl ?_
      refine PW.iload_n (i := 3) dX5_pick_124 rfl rfl ?_
      refine PW.callV (k := kX5_pick) (n := 1) (c5_busy ho) dX5_pick_125 gX5_pick_X5_busy rfl hd_X5_busy rfl ⟨by decide, by decide⟩ ⟨rfl, rfl⟩ (Nat.le_of_ble_eq_true rfl) ⟨by decide, by decide⟩ sm_mod (by decide) rfl rfl (fun v m9 hp => ?_) (fun _ _ hx => hx.elim)
      obtain ⟨rfl, rfl⟩ := hp
      refine PW.aload_n (i := 0) dX5_pick_128 rfl rfl ?_
      refine PW.iload_n (i := 1) dX5_pick_129 rfl rfl ?_
      refine PW.callV (k := kX5_pick) (n := 1) (c5_busy hc) dX5_pick_130 gX5_pick_X5_busy rfl hd_X5_busy rfl ⟨by decide, by decide⟩ ⟨rfl, rfl⟩ (Nat.le_of_ble_eq_true rfl) ⟨by decide, by decide⟩ sm_mod (by decide) rfl rfl (fun v m9 hp => ?_) (fun _ _ hx => hx.elim)
      obtain ⟨rfl, rfl⟩ := hp
      refine PW.goto (tgt := 144) dX5_pick_133 (by decide) ?_
      first | exact PW.vret dX5_pick_144 rfl ⟨rfl, by rw [g_pick1, if_pos (Int32.not_le.mp h110)]⟩ (by decide) (by decide) | exact PW.vret dX5_pick_144 rfl ⟨rfl, by rw [g_pick1, if_neg (Int32.not_lt.mpr h110)]⟩ (by decide) (by decide)
  · refine PW.aload_n (i := 0) dX5_pick_81 rfl rfl ?_
    refine PW.iload_n (i := 1) dX5_pick_82 rfl rfl ?_
    refine PW.callV (k := kX5_pick) (n := 1) (c5_busy hc) dX5_pick_83 gX5_pick_X5_busy rfl hd_X5_busy rfl ⟨by decide, by decide⟩ ⟨rfl, rfl⟩ (Nat.le_of_ble_eq_true rfl) ⟨by decide, by decide⟩ sm_mod (by decide) rfl rfl (fun v m9 hp => ?_) (fun _ _ hx => hx.elim)
    obtain ⟨rfl, rfl⟩ := hp
    exact PW.vret dX5_pick_86 rfl ⟨rfl, by rw [if_pos (Int32.not_le.mp h78)]⟩ (by decide) (by decide)
theorem p66 {c : Nat} (hc : c < 24) : 6 * (nI c / 6) + 6 = nI (6 * (c / 6) + 6) := by rw [div6 hc, show (6 : Int32) = nI 6 from rfl, pk_mul, nI_add]
theorem p60 {c : Nat} (hc : c < 24) : 6 * (nI c / 6) = nI (6 * (c / 6)) := by rw [div6 hc, show (6 : Int32) = nI 6 from rfl, pk_mul]
set_option maxRecDepth 100000 in
set_option maxHeartbeats 4000000 in
theorem pi_loop {M N : dM} {R : pM} {n0 c : Nat} {fin : Int32} (hc : c < 24) (hR : RS N) : ∀ (n s : Nat) (f : Int32) (w4 : Option Value), s + n = 6 * (c / 6) + 6 → (f = -1 ∨ ∃ q, q < 24 ∧ f = nI q ∧ N q 1 = 4) → fdL N n s f = fin → PW kX5_pick false n0 (fun v m9 => v = none ∧ m9 = SM M ++ (MM (if fin < 0 then g_busy N c else g_pick1 N (N fin.toNatClampNeg 3).toNatClampNeg c) ++ R)) (fun _ _ => False) 10 [some (.ref 44), some (.int (nI c)), some (.int f), some (.int (nI s)), w4] [] (SM M ++ (MM N ++ R)) 0 0 := by
  intro n
  induction n with
  | zero =>
    intro s f w4 hs hf hr
    refine PW.iload_n (i := 3) dX5_pick_10 rfl rfl ?_
    refine PW.bipush (v := 6) dX5_pick_11 (by decide) ?_
    refine PW.iload_n (i := 1) dX5_pick_13 rfl rfl ?_
    refine PW.bipush (v := 6) dX5_pick_14 (by decide) ?_
    refine PW.idiv dX5_pick_16 (by decide) ?_
    refine PW.imul dX5_pick_17 ?_
    refine PW.bipush (v := 6) dX5_pick_18 (by decide) ?_
    refine PW.iadd dX5_pick_20 ?_
    rw [p66 hc]
    refine PW.icmp_ge (tgt := 77) dX5_pick_21 (by decide) (fun _ => ?_) (fun h21 => absurd (nI_le (a := 6 * (c / 6) + 6) (b := s) (by omega) (by omega)) h21)
    rw [← hr]
    exact pi_end hc hR hf
  | succ n ih =>
    intro s f w4 hs hf hr
    have hs9 : s < 24 := by omega
    rcases hf with rfl | ⟨q, hq, rfl, hq4⟩
    · skip
      refine PW.iload_n (i := 3) dX5_pick_10 rfl rfl ?_
      refine PW.bipush (v := 6) dX5_pick_11 (by decide) ?_
      refine PW.iload_n (i := 1) dX5_pick_13 rfl rfl ?_
      refine PW.bipush (v := 6) dX5_pick_14 (by decide) ?_
      refine PW.idiv dX5_pick_16 (by decide) ?_
      refine PW.imul dX5_pick_17 ?_
      refine PW.bipush (v := 6) dX5_pick_18 (by decide) ?_
      refine PW.iadd dX5_pick_20 ?_
      rw [p66 hc]
      refine PW.icmp_ge (tgt := 77) dX5_pick_21 (by decide) (fun h21 => absurd h21 (nI_ge (a := s) (b := 6 * (c / 6) + 6) (by omega) (by omega))) (fun _ => ?_)
      refine PW.aload_n (i := 0) dX5_pick_24 rfl rfl ?_
      refine PW.getf FX5_pick_7 dX5_pick_25 sm_mod rfl ?_
      refine PW.iload_n (i := 3) dX5_pick_28 rfl rfl ?_
      refine PW.iald dX5_pick_29 ma_state rfl (Nat.lt_trans hs9 (by decide)) (mg_state hs9) ?_
      refine PW.iconst (v := 4) dX5_pick_30 (by decide) ?_
      refine PW.icmp_ne (tgt := 57) dX5_pick_31 (by decide) (fun h31 => ?_) (fun h31 => ?_)
      · refine PW.iconst (v := 0) dX5_pick_57 (by decide) ?_
        refine PW.istore dX5_pick_58 (by decide) rfl ?_
        refine PW.iload dX5_pick_60 rfl ?_
        refine PW.if_eq (tgt := 69) dX5_pick_62 (by decide) (fun _ => ?_) (fun h62 => absurd rfl h62)
        refine PW.iload_n (i := 2) dX5_pick_69 rfl rfl ?_
        refine PW.istore_n (i := 2) dX5_pick_70 rfl (by decide) rfl ?_
        refine PW.iinc (v := nI (s + 1)) dX5_pick_71 rfl (nI_1 s) (by decide) rfl ?_
        refine PW.goto (tgt := 10) dX5_pick_74 (by decide) ?_
        exact ih (s + 1) _ _ (by omega) (Or.inl rfl) (by rw [← hr, fdL, if_neg (fun z => h31 z.1)])
      · refine PW.iload_n (i := 2) dX5_pick_34 rfl rfl ?_
        refine PW.if_lt (tgt := 53) dX5_pick_35 (by decide) (fun _ => ?_) (fun h35 => absurd (by decide) h35)
        refine PW.iconst (v := 1) dX5_pick_53 (by decide) ?_
        refine PW.goto (tgt := 58) dX5_pick_54 (by decide) ?_
        refine PW.istore dX5_pick_58 (by decide) rfl ?_
        refine PW.iload dX5_pick_60 rfl ?_
        refine PW.if_eq (tgt := 69) dX5_pick_62 (by decide) (fun h62 => absurd h62 (by decide)) (fun _ => ?_)
        refine PW.iload_n (i := 3) dX5_pick_65 rfl rfl ?_
        refine PW.goto (tgt := 70) dX5_pick_66 (by decide) ?_
        refine PW.istore_n (i := 2) dX5_pick_70 rfl (by decide) rfl ?_
        refine PW.iinc (v := nI (s + 1)) dX5_pick_71 rfl (nI_1 s) (by decide) rfl ?_
        refine PW.goto (tgt := 10) dX5_pick_74 (by decide) ?_
        exact ih (s + 1) _ _ (by omega) (Or.inr ⟨s, hs9, rfl, h31⟩) (by rw [← hr, fdL, if_pos ⟨h31, Or.inl (by decide)⟩])
    · skip
      refine PW.iload_n (i := 3) dX5_pick_10 rfl rfl ?_
      refine PW.bipush (v := 6) dX5_pick_11 (by decide) ?_
      refine PW.iload_n (i := 1) dX5_pick_13 rfl rfl ?_
      refine PW.bipush (v := 6) dX5_pick_14 (by decide) ?_
      refine PW.idiv dX5_pick_16 (by decide) ?_
      refine PW.imul dX5_pick_17 ?_
      refine PW.bipush (v := 6) dX5_pick_18 (by decide) ?_
      refine PW.iadd dX5_pick_20 ?_
      rw [p66 hc]
      refine PW.icmp_ge (tgt := 77) dX5_pick_21 (by decide) (fun h21 => absurd h21 (nI_ge (a := s) (b := 6 * (c / 6) + 6) (by omega) (by omega))) (fun _ => ?_)
      refine PW.aload_n (i := 0) dX5_pick_24 rfl rfl ?_
      refine PW.getf FX5_pick_7 dX5_pick_25 sm_mod rfl ?_
      refine PW.iload_n (i := 3) dX5_pick_28 rfl rfl ?_
      refine PW.iald dX5_pick_29 ma_state rfl (Nat.lt_trans hs9 (by decide)) (mg_state hs9) ?_
      refine PW.iconst (v := 4) dX5_pick_30 (by decide) ?_
      refine PW.icmp_ne (tgt := 57) dX5_pick_31 (by decide) (fun h31 => ?_) (fun h31 => ?_)
      · refine PW.iconst (v := 0) dX5_pick_57 (by decide) ?_
        refine PW.istore dX5_pick_58 (by decide) rfl ?_
        refine PW.iload dX5_pick_60 rfl ?_
        refine PW.if_eq (tgt := 69) dX5_pick_62 (by decide) (fun _ => ?_) (fun h62 => absurd rfl h62)
        refine PW.iload_n (i := 2) dX5_pick_69 rfl rfl ?_
        refine PW.istore_n (i := 2) dX5_pick_70 rfl (by decide) rfl ?_
        refine PW.iinc (v := nI (s + 1)) dX5_pick_71 rfl (nI_1 s) (by decide) rfl ?_
        refine PW.goto (tgt := 10) dX5_pick_74 (by decide) ?_
        exact ih (s + 1) _ _ (by omega) (Or.inr ⟨q, hq, rfl, hq4⟩) (by rw [← hr, fdL, if_neg (fun z => h31 z.1)])
      · refine PW.iload_n (i := 2) dX5_pick_34 rfl rfl ?_
        refine PW.if_lt (tgt := 53) dX5_pick_35 (by decide) (fun h35 => absurd h35 (nI_pos (by omega))) (fun _ => ?_)
        refine PW.aload_n (i := 0) dX5_pick_38 rfl rfl ?_
        refine PW.getf FX5_pick_13 dX5_pick_39 sm_mod rfl ?_
        refine PW.iload_n (i := 3) dX5_pick_42 rfl rfl ?_
        refine PW.iald dX5_pick_43 ma_since rfl (Nat.lt_trans hs9 (by decide)) (mg_since hs9) ?_
        refine PW.aload_n (i := 0) dX5_pick_44 rfl rfl ?_
        refine PW.getf FX5_pick_13 dX5_pick_45 sm_mod rfl ?_
        refine PW.iload_n (i := 2) dX5_pick_48 rfl rfl ?_
        refine PW.iald dX5_pick_49 ma_since rfl (Nat.lt_trans hq (by decide)) (mg_since hq) ?_
        refine PW.icmp_ge (tgt := 57) dX5_pick_50 (by decide) (fun h50 => ?_) (fun h50 => ?_)
        · refine PW.iconst (v := 0) dX5_pick_57 (by decide) ?_
          refine PW.istore dX5_pick_58 (by decide) rfl ?_
          refine PW.iload dX5_pick_60 rfl ?_
          refine PW.if_eq (tgt := 69) dX5_pick_62 (by decide) (fun _ => ?_) (fun h62 => absurd rfl h62)
          refine PW.iload_n (i := 2) dX5_pick_69 rfl rfl ?_
          refine PW.istore_n (i := 2) dX5_pick_70 rfl (by decide) rfl ?_
          refine PW.iinc (v := nI (s + 1)) dX5_pick_71 rfl (nI_1 s) (by decide) rfl ?_
          refine PW.goto (tgt := 10) dX5_pick_74 (by decide) ?_
          exact ih (s + 1) _ _ (by omega) (Or.inr ⟨q, hq, rfl, hq4⟩) (by rw [← hr, fdL, if_neg (fun z => z.2.elim (nI_pos (by omega)) (fun z => by rw [nI_clamp (by omega)] at z; exact Int32.not_lt.mpr h50 z))])
        · refine PW.iconst (v := 1) dX5_pick_53 (by decide) ?_
          refine PW.goto (tgt := 58) dX5_pick_54 (by decide) ?_
          refine PW.istore dX5_pick_58 (by decide) rfl ?_
          refine PW.iload dX5_pick_60 rfl ?_
          refine PW.if_eq (tgt := 69) dX5_pick_62 (by decide) (fun h62 => absurd h62 (by decide)) (fun _ => ?_)
          refine PW.iload_n (i := 3) dX5_pick_65 rfl rfl ?_
          refine PW.goto (tgt := 70) dX5_pick_66 (by decide) ?_
          refine PW.istore_n (i := 2) dX5_pick_70 rfl (by decide) rfl ?_
          refine PW.iinc (v := nI (s + 1)) dX5_pick_71 rfl (nI_1 s) (by decide) rfl ?_
          refine PW.goto (tgt := 10) dX5_pick_74 (by decide) ?_
          exact ih (s + 1) _ _ (by omega) (Or.inr ⟨s, hs9, rfl, h31⟩) (by rw [← hr, fdL, if_pos ⟨h31, Or.inr (by rw [nI_clamp (by omega)]; exact Int32.not_le.mp h50)⟩])
set_option maxRecDepth 100000 in
set_option maxHeartbeats 4000000 in
theorem c5_pick {M N : dM} {R : pM} {c : Nat} (hc : c < 24) (hR : RS N) (l9 : Launch) : pMet l9 yX5_pick kX5_pick false [.ref 44, .int (nI c)] (SM M ++ (MM N ++ R)) (fun v m9 => v = none ∧ m9 = SM M ++ (MM (g_pick N c) ++ R)) (fun _ _ => False) := by
  refine pMet.of (by decide) rfl rfl rfl (by intro v hv; simp only [List.mem_cons, List.not_mem_nil, or_false] at hv; rcases hv with rfl | rfl <;> rfl) (Nat.le_of_ble_eq_true rfl) ?_
  show PW _ _ _ _ _ 0 [some (.ref 44), some (.int (nI c)), none, none, none] [] (SM M ++ (MM N ++ R)) 0 0
  refine PW.iconst (v := (-1)) dX5_pick_0 (by decide) ?_
  refine PW.istore_n (i := 2) dX5_pick_1 rfl (by decide) rfl ?_
  refine PW.bipush (v := 6) dX5_pick_2 (by decide) ?_
  refine PW.iload_n (i := 1) dX5_pick_4 rfl rfl ?_
  refine PW.bipush (v := 6) dX5_pick_5 (by decide) ?_
  refine PW.idiv dX5_pick_7 (by decide) ?_
  refine PW.imul dX5_pick_8 ?_
  rw [p60 hc]
  refine PW.istore_n (i := 3) dX5_pick_9 rfl (by decide) rfl ?_
  exact pi_loop hc hR 6 _ (-1) _ rfl (Or.inl rfl) rfl
set_option maxRecDepth 100000 in
set_option maxHeartbeats 4000000 in
theorem c5_unpark {M N : dM} {R : pM} {c p : Nat} (hc : c < 24) (hp : p < 4) (hP : N 36 p = -1 ∨ ∃ x, x < 24 ∧ N 36 p = nI x) (l9 : Launch) : pMet l9 yX5_unpark kX5_unpark false [.ref 44, .int (nI c), .int (nI p)] (SM M ++ (MM N ++ R)) (fun v m9 => v = none ∧ m9 = SM M ++ (MM (g_unpark N c p) ++ R)) (fun _ _ => False) := by
  refine pMet.of (by decide) rfl rfl rfl (by intro v hv; simp only [List.mem_cons, List.not_mem_nil, or_false] at hv; rcases hv with rfl | rfl | rfl <;> rfl) (Nat.le_of_ble_eq_true rfl) ?_
  show PW _ _ _ _ _ 0 [some (.ref 44), some (.int (nI c)), some (.int (nI p)), none, none] [] (SM M ++ (MM N ++ R)) 0 0
  rcases hP with hx | ⟨x, hx9, hx⟩
  · skip
    refine PW.aload_n (i := 0) dX5_unpark_0 rfl rfl ?_
    refine PW.getf FX5_unpark_50 dX5_unpark_1 sm_mod rfl ?_
    refine PW.iload_n (i := 2) dX5_unpark_4 rfl rfl ?_
    refine PW.iald dX5_unpark_5 ma_parked rfl (Nat.lt_trans hp (by decide)) (mg_parked hp) ?_
    rw [hx]
    refine PW.istore_n (i := 3) dX5_unpark_6 rfl (by decide) rfl ?_
    refine PW.iload_n (i := 3) dX5_unpark_7 rfl rfl ?_
    refine PW.if_ge (tgt := 15) dX5_unpark_8 (by decide) (fun h8 => absurd h8 (by decide)) (fun _ => ?_)
    refine PW.iconst (v := (-1)) dX5_unpark_11 (by decide) ?_
    refine PW.goto (tgt := 21) dX5_unpark_12 (by decide) ?_
    refine PW.istore dX5_unpark_21 (by decide) rfl ?_
    refine PW.iload dX5_unpark_23 rfl ?_
    refine PW.if_ge (tgt := 48) dX5_unpark_25 (by decide) (fun h25 => absurd h25 (by decide)) (fun _ => ?_)
    refine PW.iload_n (i := 3) dX5_unpark_28 rfl rfl ?_
    refine PW.if_lt (tgt := 42) dX5_unpark_29 (by decide) (fun _ => ?_) (fun h29 => absurd (by decide) h29)
    refine PW.aload_n (i := 0) dX5_unpark_42 rfl rfl ?_
    refine PW.iload_n (i := 1) dX5_unpark_43 rfl rfl ?_
    refine PW.callV (k := kX5_unpark) (n := 1) (c5_busy hc) dX5_unpark_44 gX5_unpark_X5_busy rfl hd_X5_busy rfl ⟨by decide, by decide⟩ ⟨rfl, rfl⟩ (Nat.le_of_ble_eq_true rfl) ⟨by decide, by decide⟩ sm_mod (by decide) rfl rfl (fun v m9 hp => ?_) (fun _ _ hx => hx.elim)
    obtain ⟨rfl, rfl⟩ := hp
    exact PW.vret dX5_unpark_47 rfl ⟨rfl, by rw [g_unpark, hx, if_pos (by decide : (-1 : Int32) < 0)]⟩ (by decide) (by decide)
  · skip
    refine PW.aload_n (i := 0) dX5_unpark_0 rfl rfl ?_
    refine PW.getf FX5_unpark_50 dX5_unpark_1 sm_mod rfl ?_
    refine PW.iload_n (i := 2) dX5_unpark_4 rfl rfl ?_
    refine PW.iald dX5_unpark_5 ma_parked rfl (Nat.lt_trans hp (by decide)) (mg_parked hp) ?_
    rw [hx]
    refine PW.istore_n (i := 3) dX5_unpark_6 rfl (by decide) rfl ?_
    refine PW.iload_n (i := 3) dX5_unpark_7 rfl rfl ?_
    refine PW.if_ge (tgt := 15) dX5_unpark_8 (by decide) (fun _ => ?_) (fun h8 => absurd (Int32.not_lt.mp (nI_pos (by omega))) h8)
    refine PW.aload_n (i := 0) dX5_unpark_15 rfl rfl ?_
    refine PW.iload_n (i := 3) dX5_unpark_16 rfl rfl ?_
    refine PW.iload_n (i := 1) dX5_unpark_17 rfl rfl ?_
    refine PW.callV (k := kX5_unpark) (n := 2) (c5_take hx9 hc) dX5_unpark_18 gX5_unpark_X5_take rfl hd_X5_take rfl ⟨by decide, by decide⟩ ⟨rfl, rfl⟩ (Nat.le_of_ble_eq_true rfl) ⟨by decide, by decide⟩ sm_mod (by decide) rfl rfl (fun v m9 hp => ?_) (fun _ _ hx => hx.elim)
    obtain ⟨rfl, rfl⟩ := hp
    refine PW.istore dX5_unpark_21 (by decide) rfl ?_
    refine PW.iload dX5_unpark_23 rfl ?_
    refine PW.if_ge (tgt := 48) dX5_unpark_25 (by decide) (fun h25 => ?_) (fun h25 => ?_)
    · refine PW.aload_n (i := 0) dX5_unpark_48 rfl rfl ?_
      refine PW.getf FX5_unpark_50 dX5_unpark_49 sm_mod rfl ?_
      refine PW.iload_n (i := 2) dX5_unpark_52 rfl rfl ?_
      refine PW.iconst (v := (-1)) dX5_unpark_53 (by decide) ?_
      refine PW.iast dX5_unpark_54 ma_parked rfl (Nat.lt_trans hp (by decide)) (by rw [maF_len]; exact hp)  (pm_parked hp) ?_
      refine PW.aload_n (i := 0) dX5_unpark_55 rfl rfl ?_
      refine PW.iload_n (i := 3) dX5_unpark_56 rfl rfl ?_
      refine PW.iload_n (i := 1) dX5_unpark_57 rfl rfl ?_
      refine PW.iload dX5_unpark_58 rfl ?_
      refine PW.callV (k := kX5_unpark) (n := 3) (c5_connect hx9 hc _) dX5_unpark_60 gX5_unpark_X5_connect rfl hd_X5_connect rfl ⟨by decide, by decide⟩ ⟨rfl, rfl⟩ (Nat.le_of_ble_eq_true rfl) ⟨by decide, by decide⟩ sm_mod (by decide) rfl rfl (fun v m9 hp => ?_) (fun _ _ hx => hx.elim)
      obtain ⟨rfl, rfl⟩ := hp
      first | exact PW.vret dX5_unpark_63 rfl ⟨rfl, by rw [g_unpark, hx, if_neg (nI_pos (by omega)), nI_clamp (by omega), if_pos (Int32.not_le.mp h25)]⟩ (by decide) (by decide) | exact PW.vret dX5_unpark_63 rfl ⟨rfl, by rw [g_unpark, hx, if_neg (nI_pos (by omega)), nI_clamp (by omega), if_neg (Int32.not_lt.mpr h25)]⟩ (by decide) (by decide)
    · refine PW.iload_n (i := 3) dX5_unpark_28 rfl rfl ?_
      refine PW.if_lt (tgt := 42) dX5_unpark_29 (by decide) (fun h29 => absurd h29 (nI_pos (by omega))) (fun _ => ?_)
      refine PW.aload_n (i := 0) dX5_unpark_32 rfl rfl ?_
      refine PW.dup dX5_unpark_33 rfl ?_
      refine PW.getf FX5_unpark_123 dX5_unpark_34 sm_mod rfl ?_
      refine PW.iconst (v := 1) dX5_unpark_37 (by decide) ?_
      refine PW.iadd dX5_unpark_38 ?_
      refine PW.putf FX5_unpark_123 (Fw_5_22 _) dX5_unpark_39 sm_mod (Nat.le_of_ble_eq_true rfl) (fun _ => rfl) (fun _ => rfl) pm_blocked ?_
      refine PW.aload_n (i := 0) dX5_unpark_42 rfl rfl ?_
      refine PW.iload_n (i := 1) dX5_unpark_43 rfl rfl ?_
      refine PW.callV (k := kX5_unpark) (n := 1) (c5_busy hc) dX5_unpark_44 gX5_unpark_X5_busy rfl hd_X5_busy rfl ⟨by decide, by decide⟩ ⟨rfl, rfl⟩ (Nat.le_of_ble_eq_true rfl) ⟨by decide, by decide⟩ sm_mod (by decide) rfl rfl (fun v m9 hp => ?_) (fun _ _ hx => hx.elim)
      obtain ⟨rfl, rfl⟩ := hp
      first | exact PW.vret dX5_unpark_47 rfl ⟨rfl, by rw [g_unpark, hx, if_neg (nI_pos (by omega)), nI_clamp (by omega), if_pos (Int32.not_le.mp h25)]⟩ (by decide) (by decide) | exact PW.vret dX5_unpark_47 rfl ⟨rfl, by rw [g_unpark, hx, if_neg (nI_pos (by omega)), nI_clamp (by omega), if_neg (Int32.not_lt.mpr h25)]⟩ (by decide) (by decide)
set_option maxRecDepth 100000 in
set_option maxHeartbeats 4000000 in
theorem c5_call {M N : dM} {R : pM} {Q : dM} {c : Nat} (hQ : Rx c Q N) (hS : Sf Q) (hc : c < 24) (x : Int32) (l9 : Launch) : pMet l9 yX5_call kX5_call false [.ref 44, .int (nI c), .int x] (SM M ++ (MM N ++ R)) (fun v m9 => v = none ∧ m9 = SM M ++ (MM (g_call N c x) ++ R)) (fun _ _ => False) := by
  refine pMet.of (by decide) rfl rfl rfl (by intro v hv; simp only [List.mem_cons, List.not_mem_nil, or_false] at hv; rcases hv with rfl | rfl | rfl <;> rfl) (Nat.le_of_ble_eq_true rfl) ?_
  show PW _ _ _ _ _ 0 [some (.ref 44), some (.int (nI c)), some (.int x)] [] (SM M ++ (MM N ++ R)) 0 0
  refine PW.iload_n (i := 2) dX5_call_0 rfl rfl ?_
  refine PW.bipush (v := 10) dX5_call_1 (by decide) ?_
  refine PW.bipush (v := 33) dX5_call_3 (by decide) ?_
  refine PW.callS (k := kX5_call) (n := 3) (c5_in _ _ _) dX5_call_5 gX5_call_X5_in rfl hs_X5_in rfl ⟨by decide, by decide⟩ ⟨rfl, rfl⟩ (Nat.le_of_ble_eq_true rfl) ⟨by decide, by decide⟩ rfl (fun v m9 hp => ?_) (fun _ _ hx => hx.elim)
  obtain ⟨rfl, rfl⟩ := hp
  refine PW.if_eq (tgt := 23) dX5_call_8 (by decide) (fun h8 => ?_) (fun h8 => ?_)
  · refine PW.iload_n (i := 2) dX5_call_23 rfl rfl ?_
    refine PW.bipush (v := 40) dX5_call_24 (by decide) ?_
    refine PW.bipush (v := 43) dX5_call_26 (by decide) ?_
    refine PW.callS (k := kX5_call) (n := 3) (c5_in _ _ _) dX5_call_28 gX5_call_X5_in rfl hs_X5_in rfl ⟨by decide, by decide⟩ ⟨rfl, rfl⟩ (Nat.le_of_ble_eq_true rfl) ⟨by decide, by decide⟩ rfl (fun v m9 hp => ?_) (fun _ _ hx => hx.elim)
    obtain ⟨rfl, rfl⟩ := hp
    refine PW.if_eq (tgt := 46) dX5_call_31 (by decide) (fun h31 => ?_) (fun h31 => ?_)
    · refine PW.iload_n (i := 2) dX5_call_46 rfl rfl ?_
      refine PW.bipush (v := 50) dX5_call_47 (by decide) ?_
      refine PW.icmp_ne (tgt := 60) dX5_call_49 (by decide) (fun h49 => ?_) (fun h49 => ?_)
      · refine PW.iload_n (i := 2) dX5_call_60 rfl rfl ?_
        refine PW.bipush (v := 60) dX5_call_61 (by decide) ?_
        refine PW.bipush (v := 63) dX5_call_63 (by decide) ?_
        refine PW.callS (k := kX5_call) (n := 3) (c5_in _ _ _) dX5_call_65 gX5_call_X5_in rfl hs_X5_in rfl ⟨by decide, by decide⟩ ⟨rfl, rfl⟩ (Nat.le_of_ble_eq_true rfl) ⟨by decide, by decide⟩ rfl (fun v m9 hp => ?_) (fun _ _ hx => hx.elim)
        obtain ⟨rfl, rfl⟩ := hp
        refine PW.if_eq (tgt := 83) dX5_call_68 (by decide) (fun h68 => ?_) (fun h68 => ?_)
        · refine PW.iload_n (i := 2) dX5_call_83 rfl rfl ?_
          refine PW.bipush (v := 51) dX5_call_84 (by decide) ?_
          refine PW.icmp_ne (tgt := 96) dX5_call_86 (by decide) (fun h86 => ?_) (fun h86 => ?_)
          · refine PW.iload_n (i := 2) dX5_call_96 rfl rfl ?_
            refine PW.bipush (v := 52) dX5_call_97 (by decide) ?_
            refine PW.icmp_ne (tgt := 109) dX5_call_99 (by decide) (fun h99 => ?_) (fun h99 => ?_)
            · refine PW.aload_n (i := 0) dX5_call_109 rfl rfl ?_
              refine PW.iload_n (i := 1) dX5_call_110 rfl rfl ?_
              refine PW.callV (k := kX5_call) (n := 1) (c5_busy hc) dX5_call_111 gX5_call_X5_busy rfl hd_X5_busy rfl ⟨by decide, by decide⟩ ⟨rfl, rfl⟩ (Nat.le_of_ble_eq_true rfl) ⟨by decide, by decide⟩ sm_mod (by decide) rfl rfl (fun v m9 hp => ?_) (fun _ _ hx => hx.elim)
              obtain ⟨rfl, rfl⟩ := hp
              first | exact PW.vret dX5_call_114 rfl ⟨rfl, by rw [g_call, if_neg (fun q => by rw [b2i_z h8] at q; cases q), if_neg (fun q => by rw [b2i_z h31] at q; cases q), if_neg h49, if_neg (fun q => by rw [b2i_z h68] at q; cases q), g_quiet, if_pos h86]⟩ (by decide) (by decide) | exact PW.vret dX5_call_114 rfl ⟨rfl, by rw [g_call, if_neg (fun q => by rw [b2i_z h8] at q; cases q), if_neg (fun q => by rw [b2i_z h31] at q; cases q), if_neg h49, if_neg (fun q => by rw [b2i_z h68] at q; cases q), g_quiet, if_neg h86, if_pos h99]⟩ (by decide) (by decide) | exact PW.vret dX5_call_114 rfl ⟨rfl, by rw [g_call, if_neg (fun q => by rw [b2i_z h8] at q; cases q), if_neg (fun q => by rw [b2i_z h31] at q; cases q), if_neg h49, if_neg (fun q => by rw [b2i_z h68] at q; cases q), g_quiet, if_neg h86, if_neg h99]⟩ (by decide) (by decide)
            · refine PW.aload_n (i := 0) dX5_call_102 rfl rfl ?_
              refine PW.getf FX5_call_34 dX5_call_103 sm_mod rfl ?_
              refine PW.iload_n (i := 1) dX5_call_106 rfl rfl ?_
              refine PW.iconst (v := 0) dX5_call_107 (by decide) ?_
              refine PW.zast dX5_call_108 ma_quiet rfl (Nat.lt_trans hc (by decide)) (by rw [maF_len]; exact hc) (by decide) (pm_quiet hc) ?_
              refine PW.aload_n (i := 0) dX5_call_109 rfl rfl ?_
              refine PW.iload_n (i := 1) dX5_call_110 rfl rfl ?_
              refine PW.callV (k := kX5_call) (n := 1) (c5_busy hc) dX5_call_111 gX5_call_X5_busy rfl hd_X5_busy rfl ⟨by decide, by decide⟩ ⟨rfl, rfl⟩ (Nat.le_of_ble_eq_true rfl) ⟨by decide, by decide⟩ sm_mod (by decide) rfl rfl (fun v m9 hp => ?_) (fun _ _ hx => hx.elim)
              obtain ⟨rfl, rfl⟩ := hp
              first | exact PW.vret dX5_call_114 rfl ⟨rfl, by rw [g_call, if_neg (fun q => by rw [b2i_z h8] at q; cases q), if_neg (fun q => by rw [b2i_z h31] at q; cases q), if_neg h49, if_neg (fun q => by rw [b2i_z h68] at q; cases q), g_quiet, if_pos h86]⟩ (by decide) (by decide) | exact PW.vret dX5_call_114 rfl ⟨rfl, by rw [g_call, if_neg (fun q => by rw [b2i_z h8] at q; cases q), if_neg (fun q => by rw [b2i_z h31] at q; cases q), if_neg h49, if_neg (fun q => by rw [b2i_z h68] at q; cases q), g_quiet, if_neg h86, if_pos h99]⟩ (by decide) (by decide) | exact PW.vret dX5_call_114 rfl ⟨rfl, by rw [g_call, if_neg (fun q => by rw [b2i_z h8] at q; cases q), if_neg (fun q => by rw [b2i_z h31] at q; cases q), if_neg h49, if_neg (fun q => by rw [b2i_z h68] at q; cases q), g_quiet, if_neg h86, if_neg h99]⟩ (by decide) (by decide)
          · refine PW.aload_n (i := 0) dX5_call_89 rfl rfl ?_
            refine PW.getf FX5_call_34 dX5_call_90 sm_mod rfl ?_
            refine PW.iload_n (i := 1) dX5_call_93 rfl rfl ?_
            refine PW.iconst (v := 1) dX5_call_94 (by decide) ?_
            refine PW.zast dX5_call_95 ma_quiet rfl (Nat.lt_trans hc (by decide)) (by rw [maF_len]; exact hc) (by decide) (pm_quiet hc) ?_
            refine PW.iload_n (i := 2) dX5_call_96 rfl rfl ?_
            refine PW.bipush (v := 52) dX5_call_97 (by decide) ?_
            refine PW.icmp_ne (tgt := 109) dX5_call_99 (by decide) (fun _ => ?_) (fun h99 => absurd h99 (by rw [h86]; decide))
            refine PW.aload_n (i := 0) dX5_call_109 rfl rfl ?_
            refine PW.iload_n (i := 1) dX5_call_110 rfl rfl ?_
            refine PW.callV (k := kX5_call) (n := 1) (c5_busy hc) dX5_call_111 gX5_call_X5_busy rfl hd_X5_busy rfl ⟨by decide, by decide⟩ ⟨rfl, rfl⟩ (Nat.le_of_ble_eq_true rfl) ⟨by decide, by decide⟩ sm_mod (by decide) rfl rfl (fun v m9 hp => ?_) (fun _ _ hx => hx.elim)
            obtain ⟨rfl, rfl⟩ := hp
            first | exact PW.vret dX5_call_114 rfl ⟨rfl, by rw [g_call, if_neg (fun q => by rw [b2i_z h8] at q; cases q), if_neg (fun q => by rw [b2i_z h31] at q; cases q), if_neg h49, if_neg (fun q => by rw [b2i_z h68] at q; cases q), g_quiet, if_pos h86]⟩ (by decide) (by decide) | exact PW.vret dX5_call_114 rfl ⟨rfl, by rw [g_call, if_neg (fun q => by rw [b2i_z h8] at q; cases q), if_neg (fun q => by rw [b2i_z h31] at q; cases q), if_neg h49, if_neg (fun q => by rw [b2i_z h68] at q; cases q), g_quiet, if_neg h86, if_pos h99]⟩ (by decide) (by decide) | exact PW.vret dX5_call_114 rfl ⟨rfl, by rw [g_call, if_neg (fun q => by rw [b2i_z h8] at q; cases q), if_neg (fun q => by rw [b2i_z h31] at q; cases q), if_neg h49, if_neg (fun q => by rw [b2i_z h68] at q; cases q), g_quiet, if_neg h86, if_neg h99]⟩ (by decide) (by decide)
        · have iff9 := in_iff (x := x) (a := 60) (b := 63) (b' := 64) (by decide)
          obtain ⟨j, g1, g2, ej⟩ := rng (a := 60) (b := 64) (by decide) (by decide) (iff9.mp (b2i_t h68)).1 (iff9.mp (b2i_t h68)).2
          have hj9 : j - 60 < 4 := by omega
          have ejx : x - 60 = nI (j - 60) := by rw [ej]; exact pk_sub (b := 60) g1
          have ejc : (x - 60).toNatClampNeg = j - 60 := by rw [ejx, nI_clamp (by omega)]
          refine PW.aload_n (i := 0) dX5_call_71 rfl rfl ?_
          refine PW.iload_n (i := 1) dX5_call_72 rfl rfl ?_
          refine PW.iload_n (i := 2) dX5_call_73 rfl rfl ?_
          refine PW.bipush (v := 60) dX5_call_74 (by decide) ?_
          refine PW.isub dX5_call_76 ?_
          rw [ejx]
          refine PW.callV (k := kX5_call) (n := 2) (c5_unpark hc hj9 (by rw [← hQ.2.2.1 36 (j - 60) (by decide) (by decide) (by omega)]; exact hS.2.1 (j - 60) hj9)) dX5_call_77 gX5_call_X5_unpark rfl hd_X5_unpark rfl ⟨by decide, by decide⟩ ⟨rfl, rfl⟩ (Nat.le_of_ble_eq_true rfl) ⟨by decide, by decide⟩ sm_mod (by decide) rfl rfl (fun v m9 hp => ?_) (fun _ _ hx => hx.elim)
          obtain ⟨rfl, rfl⟩ := hp
          refine PW.goto (tgt := 114) dX5_call_80 (by decide) ?_
          exact PW.vret dX5_call_114 rfl ⟨rfl, by rw [g_call, if_neg (fun q => by rw [b2i_z h8] at q; cases q), if_neg (fun q => by rw [b2i_z h31] at q; cases q), if_neg h49, if_pos (b2i_t h68), ejc]⟩ (by decide) (by decide)
      · refine PW.aload_n (i := 0) dX5_call_52 rfl rfl ?_
        refine PW.iload_n (i := 1) dX5_call_53 rfl rfl ?_
        refine PW.callV (k := kX5_call) (n := 1) (c5_pick hc (RS.of hQ hS)) dX5_call_54 gX5_call_X5_pick rfl hd_X5_pick rfl ⟨by decide, by decide⟩ ⟨rfl, rfl⟩ (Nat.le_of_ble_eq_true rfl) ⟨by decide, by decide⟩ sm_mod (by decide) rfl rfl (fun v m9 hp => ?_) (fun _ _ hx => hx.elim)
        obtain ⟨rfl, rfl⟩ := hp
        refine PW.goto (tgt := 114) dX5_call_57 (by decide) ?_
        exact PW.vret dX5_call_114 rfl ⟨rfl, by rw [g_call, if_neg (fun q => by rw [b2i_z h8] at q; cases q), if_neg (fun q => by rw [b2i_z h31] at q; cases q), if_pos h49]⟩ (by decide) (by decide)
    · have iff9 := in_iff (x := x) (a := 40) (b := 43) (b' := 44) (by decide)
      obtain ⟨j, g1, g2, ej⟩ := rng (a := 40) (b := 44) (by decide) (by decide) (iff9.mp (b2i_t h31)).1 (iff9.mp (b2i_t h31)).2
      have hj9 : j - 40 < 4 := by omega
      have ejx : x - 40 = nI (j - 40) := by rw [ej]; exact pk_sub (b := 40) g1
      have ejc : (x - 40).toNatClampNeg = j - 40 := by rw [ejx, nI_clamp (by omega)]
      refine PW.aload_n (i := 0) dX5_call_34 rfl rfl ?_
      refine PW.iload_n (i := 1) dX5_call_35 rfl rfl ?_
      refine PW.iload_n (i := 2) dX5_call_36 rfl rfl ?_
      refine PW.bipush (v := 40) dX5_call_37 (by decide) ?_
      refine PW.isub dX5_call_39 ?_
      rw [ejx]
      refine PW.callV (k := kX5_call) (n := 2) (c5_callGroup hc hj9 (GO.of hQ hS hj9)) dX5_call_40 gX5_call_X5_callGroup rfl hd_X5_callGroup rfl ⟨by decide, by decide⟩ ⟨rfl, rfl⟩ (Nat.le_of_ble_eq_true rfl) ⟨by decide, by decide⟩ sm_mod (by decide) rfl rfl (fun v m9 hp => ?_) (fun _ _ hx => hx.elim)
      obtain ⟨rfl, rfl⟩ := hp
      refine PW.goto (tgt := 114) dX5_call_43 (by decide) ?_
      exact PW.vret dX5_call_114 rfl ⟨rfl, by rw [g_call, if_neg (fun q => by rw [b2i_z h8] at q; cases q), if_pos (b2i_t h31), ejc]⟩ (by decide) (by decide)
  · have iff9 := in_iff (x := x) (a := 10) (b := 33) (b' := 34) (by decide)
    obtain ⟨j, g1, g2, ej⟩ := rng (a := 10) (b := 34) (by decide) (by decide) (iff9.mp (b2i_t h8)).1 (iff9.mp (b2i_t h8)).2
    have hj9 : j - 10 < 24 := by omega
    have ejx : x - 10 = nI (j - 10) := by rw [ej]; exact pk_sub (b := 10) g1
    have ejc : (x - 10).toNatClampNeg = j - 10 := by rw [ejx, nI_clamp (by omega)]
    refine PW.aload_n (i := 0) dX5_call_11 rfl rfl ?_
    refine PW.iload_n (i := 1) dX5_call_12 rfl rfl ?_
    refine PW.iload_n (i := 2) dX5_call_13 rfl rfl ?_
    refine PW.bipush (v := 10) dX5_call_14 (by decide) ?_
    refine PW.isub dX5_call_16 ?_
    rw [ejx]
    refine PW.callV (k := kX5_call) (n := 2) (c5_callLine hc hj9) dX5_call_17 gX5_call_X5_callLine rfl hd_X5_callLine rfl ⟨by decide, by decide⟩ ⟨rfl, rfl⟩ (Nat.le_of_ble_eq_true rfl) ⟨by decide, by decide⟩ sm_mod (by decide) rfl rfl (fun v m9 hp => ?_) (fun _ _ hx => hx.elim)
    obtain ⟨rfl, rfl⟩ := hp
    refine PW.goto (tgt := 114) dX5_call_20 (by decide) ?_
    exact PW.vret dX5_call_114 rfl ⟨rfl, by rw [g_call, if_pos (b2i_t h8), ejc]⟩ (by decide) (by decide)
theorem lnOK.of {Q N : dM} {l : Nat} (h : Rx 24 Q N) (hS : Sf Q) (hl : l < 24) : lnOK (N l) := by
  obtain ⟨⟨b1, b3, b4, b5, b6, b7, b8, b9, b10, b11⟩, -⟩ := h.1 l hl (by omega)
  have := hS.1 l hl
  unfold lnOK at *
  rw [b1, b3, b4, b5, b10] at this
  exact this
set_option maxRecDepth 100000 in
set_option maxHeartbeats 4000000 in
theorem c5_leave {M N : dM} {R : pM} {Q : dM} {l : Nat} (hQ : Rx 24 Q N) (hS : Sf Q) (hl : l < 24) (hw : N l 1 = 6 → N 37 1 = nI (wr N) ∧ wr N < 100000) (l9 : Launch) : pMet l9 yX5_leave kX5_leave false [.ref 44, .int (nI l)] (SM M ++ (MM N ++ R)) (fun v m9 => v = none ∧ m9 = SM M ++ (MM (g_leave N l) ++ R)) (fun _ _ => False) := by
  refine pMet.of (by decide) rfl rfl rfl (by intro v hv; simp only [List.mem_cons, List.not_mem_nil, or_false] at hv; rcases hv with rfl | rfl <;> rfl) (Nat.le_of_ble_eq_true rfl) ?_
  show PW _ _ _ _ _ 0 [some (.ref 44), some (.int (nI l)), none] [] (SM M ++ (MM N ++ R)) 0 0
  refine PW.aload_n (i := 0) dX5_leave_0 rfl rfl ?_
  refine PW.getf FX5_leave_7 dX5_leave_1 sm_mod rfl ?_
  refine PW.iload_n (i := 1) dX5_leave_4 rfl rfl ?_
  refine PW.iald dX5_leave_5 ma_state rfl (Nat.lt_trans hl (by decide)) (mg_state hl) ?_
  refine PW.bipush (v := 6) dX5_leave_6 (by decide) ?_
  refine PW.icmp_ne (tgt := 31) dX5_leave_8 (by decide) (fun h8 => ?_) (fun h8 => ?_)
  · refine PW.aload_n (i := 0) dX5_leave_31 rfl rfl ?_
    refine PW.getf FX5_leave_7 dX5_leave_32 sm_mod rfl ?_
    refine PW.iload_n (i := 1) dX5_leave_35 rfl rfl ?_
    refine PW.iald dX5_leave_36 ma_state rfl (Nat.lt_trans hl (by decide)) (mg_state hl) ?_
    refine PW.iconst (v := 3) dX5_leave_37 (by decide) ?_
    refine PW.icmp_ne (tgt := 50) dX5_leave_38 (by decide) (fun h38 => ?_) (fun h38 => ?_)
    · refine PW.aload_n (i := 0) dX5_leave_50 rfl rfl ?_
      refine PW.getf FX5_leave_7 dX5_leave_51 sm_mod rfl ?_
      refine PW.iload_n (i := 1) dX5_leave_54 rfl rfl ?_
      refine PW.iald dX5_leave_55 ma_state rfl (Nat.lt_trans hl (by decide)) (mg_state hl) ?_
      refine PW.bipush (v := 7) dX5_leave_56 (by decide) ?_
      refine PW.icmp_ne (tgt := 76) dX5_leave_58 (by decide) (fun h58 => ?_) (fun h58 => ?_)
      · refine PW.aload_n (i := 0) dX5_leave_76 rfl rfl ?_
        refine PW.getf FX5_leave_7 dX5_leave_77 sm_mod rfl ?_
        refine PW.iload_n (i := 1) dX5_leave_80 rfl rfl ?_
        refine PW.iald dX5_leave_81 ma_state rfl (Nat.lt_trans hl (by decide)) (mg_state hl) ?_
        refine PW.bipush (v := 8) dX5_leave_82 (by decide) ?_
        refine PW.icmp_ne (tgt := 99) dX5_leave_84 (by decide) (fun h84 => ?_) (fun h84 => ?_)
        · first | exact PW.vret dX5_leave_99 rfl ⟨rfl, by rw [g_leave, if_neg h8, if_neg h38, if_neg h58, if_pos h84, oth, e3, nI_clamp (by omega)]⟩ (by decide) (by decide) | exact PW.vret dX5_leave_99 rfl ⟨rfl, by rw [g_leave, if_neg h8, if_neg h38, if_neg h58, if_neg h84]⟩ (by decide) (by decide)
        · obtain ⟨o, ho, e3⟩ := (lnOK.of hQ hS hl).2.2.1 h84
          refine PW.aload_n (i := 0) dX5_leave_87 rfl rfl ?_
          refine PW.getf FX5_leave_47 dX5_leave_88 sm_mod rfl ?_
          refine PW.aload_n (i := 0) dX5_leave_91 rfl rfl ?_
          refine PW.getf FX5_leave_22 dX5_leave_92 sm_mod rfl ?_
          refine PW.iload_n (i := 1) dX5_leave_95 rfl rfl ?_
          refine PW.iald dX5_leave_96 ma_other rfl (Nat.lt_trans hl (by decide)) (mg_other hl) ?_
          rw [e3]
          refine PW.iconst (v := (-1)) dX5_leave_97 (by decide) ?_
          refine PW.iast dX5_leave_98 ma_camper rfl (Nat.lt_trans ho (by decide)) (by rw [maF_len]; exact ho)  (pm_camper ho) ?_
          first | exact PW.vret dX5_leave_99 rfl ⟨rfl, by rw [g_leave, if_neg h8, if_neg h38, if_neg h58, if_pos h84, oth, e3, nI_clamp (by omega)]⟩ (by decide) (by decide) | exact PW.vret dX5_leave_99 rfl ⟨rfl, by rw [g_leave, if_neg h8, if_neg h38, if_neg h58, if_neg h84]⟩ (by decide) (by decide)
      · obtain ⟨p, hp, e3⟩ := (lnOK.of hQ hS hl).2.1 h58
        refine PW.aload_n (i := 0) dX5_leave_61 rfl rfl ?_
        refine PW.getf FX5_leave_50 dX5_leave_62 sm_mod rfl ?_
        refine PW.aload_n (i := 0) dX5_leave_65 rfl rfl ?_
        refine PW.getf FX5_leave_22 dX5_leave_66 sm_mod rfl ?_
        refine PW.iload_n (i := 1) dX5_leave_69 rfl rfl ?_
        refine PW.iald dX5_leave_70 ma_other rfl (Nat.lt_trans hl (by decide)) (mg_other hl) ?_
        rw [e3]
        refine PW.iconst (v := (-1)) dX5_leave_71 (by decide) ?_
        refine PW.iast dX5_leave_72 ma_parked rfl (Nat.lt_trans hp (by decide)) (by rw [maF_len]; exact hp)  (pm_parked hp) ?_
        refine PW.goto (tgt := 99) dX5_leave_73 (by decide) ?_
        exact PW.vret dX5_leave_99 rfl ⟨rfl, by rw [g_leave, if_neg h8, if_neg h38, if_pos h58, oth, e3, nI_clamp (by omega)]⟩ (by decide) (by decide)
    · refine PW.aload_n (i := 0) dX5_leave_41 rfl rfl ?_
      refine PW.iload_n (i := 1) dX5_leave_42 rfl rfl ?_
      refine PW.iconst (v := (-1)) dX5_leave_43 (by decide) ?_
      refine PW.callV (k := kX5_leave) (n := 2) (c5_hush hl _ (RS.of hQ hS)) dX5_leave_44 gX5_leave_X5_hush rfl hd_X5_hush rfl ⟨by decide, by decide⟩ ⟨rfl, rfl⟩ (Nat.le_of_ble_eq_true rfl) ⟨by decide, by decide⟩ sm_mod (by decide) rfl rfl (fun v m9 hp => ?_) (fun _ _ hx => hx.elim)
      obtain ⟨rfl, rfl⟩ := hp
      refine PW.goto (tgt := 99) dX5_leave_47 (by decide) ?_
      exact PW.vret dX5_leave_99 rfl ⟨rfl, by rw [g_leave, if_neg h8, if_pos h38]⟩ (by decide) (by decide)
  · have hw := hw h8
    obtain ⟨o, t, ho, ht, e3, e4⟩ := (lnOK.of hQ hS hl).1 (Or.inr h8)
    refine PW.aload_n (i := 0) dX5_leave_11 rfl rfl ?_
    refine PW.getf FX5_leave_22 dX5_leave_12 sm_mod rfl ?_
    refine PW.iload_n (i := 1) dX5_leave_15 rfl rfl ?_
    refine PW.iald dX5_leave_16 ma_other rfl (Nat.lt_trans hl (by decide)) (mg_other hl) ?_
    rw [e3]
    refine PW.istore_n (i := 2) dX5_leave_17 rfl (by decide) rfl ?_
    refine PW.aload_n (i := 0) dX5_leave_18 rfl rfl ?_
    refine PW.iload_n (i := 1) dX5_leave_19 rfl rfl ?_
    refine PW.callV (k := kX5_leave) (n := 1) (c5_finish hl ho ht e3 e4 hw.1 hw.2) dX5_leave_20 gX5_leave_X5_finish rfl hd_X5_finish rfl ⟨by decide, by decide⟩ ⟨rfl, rfl⟩ (Nat.le_of_ble_eq_true rfl) ⟨by decide, by decide⟩ sm_mod (by decide) rfl rfl (fun v m9 hp => ?_) (fun _ _ hx => hx.elim)
    obtain ⟨rfl, rfl⟩ := hp
    refine PW.aload_n (i := 0) dX5_leave_23 rfl rfl ?_
    refine PW.iload_n (i := 2) dX5_leave_24 rfl rfl ?_
    refine PW.callV (k := kX5_leave) (n := 1) (c5_busy ho) dX5_leave_25 gX5_leave_X5_busy rfl hd_X5_busy rfl ⟨by decide, by decide⟩ ⟨rfl, rfl⟩ (Nat.le_of_ble_eq_true rfl) ⟨by decide, by decide⟩ sm_mod (by decide) rfl rfl (fun v m9 hp => ?_) (fun _ _ hx => hx.elim)
    obtain ⟨rfl, rfl⟩ := hp
    refine PW.goto (tgt := 99) dX5_leave_28 (by decide) ?_
    exact PW.vret dX5_leave_99 rfl ⟨rfl, by rw [g_leave, if_pos h8, oth, e3, nI_clamp (by omega)]⟩ (by decide) (by decide)
theorem GN.leave {Q N : dM} {l : Nat} (h : Rx 24 Q N) (hI : Iv 24 Q) (hS : Sf Q) (hl : l < 24) : GN (g_busy (g_leave N l) l) ∧ GN (g_bec (g_leave N l) l 0) := by
  obtain ⟨b1, b2, b3⟩ := leave_eq h hI hS hl
  exact ⟨⟨_, b1.busy (t := f_leave Q l 39 5) hl rfl, b2.enter hl b3 (by decide) (by decide) rfl, (hS.leave hl).enter hl (by decide) (by decide) (by decide) (by decide)⟩, ⟨_, b1.idle (t := f_leave Q l 39 5) hl rfl, b2.enter hl b3 (by decide) (by decide) rfl, (hS.leave hl).enter hl (by decide) (by decide) (by decide) (by decide)⟩⟩
set_option maxRecDepth 100000 in
set_option maxHeartbeats 4000000 in
theorem c5_watch {M N : dM} {R : pM} {Q : dM} {l : Nat} (hQ : Rx 24 Q N) (hI : Iv 24 Q) (hS : Sf Q) (hl : l < 24) (l9 : Launch) : pMet l9 yX5_watch kX5_watch false [.ref 44, .int (nI l)] (SM M ++ (MM N ++ R)) (fun v m9 => v = none ∧ m9 = SM M ++ (MM (g_watch N l) ++ R)) (fun _ _ => False) := by
  refine pMet.of (by decide) rfl rfl rfl (by intro v hv; simp only [List.mem_cons, List.not_mem_nil, or_false] at hv; rcases hv with rfl | rfl <;> rfl) (Nat.le_of_ble_eq_true rfl) ?_
  show PW _ _ _ _ _ 0 [some (.ref 44), some (.int (nI l)), none, none] [] (SM M ++ (MM N ++ R)) 0 0
  by_cases hA : act1 (N l 1) (N 39 5 - N l 2)
  · rcases hA.1 with c1 | c1
    · skip
      refine PW.aload_n (i := 0) dX5_watch_0 rfl rfl ?_
      refine PW.getf FX5_watch_7 dX5_watch_1 sm_mod rfl ?_
      refine PW.iload_n (i := 1) dX5_watch_4 rfl rfl ?_
      refine PW.iald dX5_watch_5 ma_state rfl (Nat.lt_trans hl (by decide)) (mg_state hl) ?_
      refine PW.istore_n (i := 2) dX5_watch_6 rfl (by decide) rfl ?_
      refine PW.aload_n (i := 0) dX5_watch_7 rfl rfl ?_
      refine PW.getf FX5_watch_87 dX5_watch_8 sm_mod rfl ?_
      refine PW.aload_n (i := 0) dX5_watch_11 rfl rfl ?_
      refine PW.getf FX5_watch_13 dX5_watch_12 sm_mod rfl ?_
      refine PW.iload_n (i := 1) dX5_watch_15 rfl rfl ?_
      refine PW.iald dX5_watch_16 ma_since rfl (Nat.lt_trans hl (by decide)) (mg_since hl) ?_
      refine PW.isub dX5_watch_17 ?_
      refine PW.istore_n (i := 3) dX5_watch_18 rfl (by decide) rfl ?_
      refine PW.iload_n (i := 2) dX5_watch_19 rfl rfl ?_
      refine PW.iconst (v := 1) dX5_watch_20 (by decide) ?_
      refine PW.icmp_eq (tgt := 29) dX5_watch_21 (by decide) (fun _ => ?_) (fun h21 => absurd c1 h21)
      refine PW.iload_n (i := 3) dX5_watch_29 rfl rfl ?_
      refine PW.bipush (v := 100) dX5_watch_30 (by decide) ?_
      refine PW.icmp_lt (tgt := 42) dX5_watch_32 (by decide) (fun h32 => absurd h32 (Int32.not_lt.mpr hA.2)) (fun _ => ?_)
      refine PW.aload_n (i := 0) dX5_watch_35 rfl rfl ?_
      refine PW.iload_n (i := 1) dX5_watch_36 rfl rfl ?_
      refine PW.bipush (v := 9) dX5_watch_37 (by decide) ?_
      refine PW.callV (k := kX5_watch) (n := 2) (c5_become hl _) dX5_watch_39 gX5_watch_X5_become rfl hd_X5_become rfl ⟨by decide, by decide⟩ ⟨rfl, rfl⟩ (Nat.le_of_ble_eq_true rfl) ⟨by decide, by decide⟩ sm_mod (by decide) rfl rfl (fun v m9 hp => ?_) (fun _ _ hx => hx.elim)
      obtain ⟨rfl, rfl⟩ := hp
      refine PW.iload_n (i := 2) dX5_watch_42 rfl rfl ?_
      refine PW.iconst (v := 3) dX5_watch_43 (by decide) ?_
      refine PW.icmp_ne (tgt := 54) dX5_watch_44 (by decide) (fun _ => ?_) (fun h44 => absurd h44 (ne_of_st c1 (by decide)))
      refine PW.iload_n (i := 2) dX5_watch_54 rfl rfl ?_
      refine PW.bipush (v := 7) dX5_watch_55 (by decide) ?_
      refine PW.icmp_ne (tgt := 81) dX5_watch_57 (by decide) (fun _ => ?_) (fun h57 => absurd h57 (ne_of_st c1 (by decide)))
      exact PW.vret dX5_watch_81 rfl ⟨rfl, by rw [g_watch, if_pos hA]⟩ (by decide) (by decide)
    · skip
      refine PW.aload_n (i := 0) dX5_watch_0 rfl rfl ?_
      refine PW.getf FX5_watch_7 dX5_watch_1 sm_mod rfl ?_
      refine PW.iload_n (i := 1) dX5_watch_4 rfl rfl ?_
      refine PW.iald dX5_watch_5 ma_state rfl (Nat.lt_trans hl (by decide)) (mg_state hl) ?_
      refine PW.istore_n (i := 2) dX5_watch_6 rfl (by decide) rfl ?_
      refine PW.aload_n (i := 0) dX5_watch_7 rfl rfl ?_
      refine PW.getf FX5_watch_87 dX5_watch_8 sm_mod rfl ?_
      refine PW.aload_n (i := 0) dX5_watch_11 rfl rfl ?_
      refine PW.getf FX5_watch_13 dX5_watch_12 sm_mod rfl ?_
      refine PW.iload_n (i := 1) dX5_watch_15 rfl rfl ?_
      refine PW.iald dX5_watch_16 ma_since rfl (Nat.lt_trans hl (by decide)) (mg_since hl) ?_
      refine PW.isub dX5_watch_17 ?_
      refine PW.istore_n (i := 3) dX5_watch_18 rfl (by decide) rfl ?_
      refine PW.iload_n (i := 2) dX5_watch_19 rfl rfl ?_
      refine PW.iconst (v := 1) dX5_watch_20 (by decide) ?_
      refine PW.icmp_eq (tgt := 29) dX5_watch_21 (by decide) (fun h21 => absurd h21 (ne_of_st c1 (by decide))) (fun _ => ?_)
      refine PW.iload_n (i := 2) dX5_watch_24 rfl rfl ?_
      refine PW.iconst (v := 2) dX5_watch_25 (by decide) ?_
      refine PW.icmp_ne (tgt := 42) dX5_watch_26 (by decide) (fun h26 => absurd h26 (fun z => z c1)) (fun _ => ?_)
      refine PW.iload_n (i := 3) dX5_watch_29 rfl rfl ?_
      refine PW.bipush (v := 100) dX5_watch_30 (by decide) ?_
      refine PW.icmp_lt (tgt := 42) dX5_watch_32 (by decide) (fun h32 => absurd h32 (Int32.not_lt.mpr hA.2)) (fun _ => ?_)
      refine PW.aload_n (i := 0) dX5_watch_35 rfl rfl ?_
      refine PW.iload_n (i := 1) dX5_watch_36 rfl rfl ?_
      refine PW.bipush (v := 9) dX5_watch_37 (by decide) ?_
      refine PW.callV (k := kX5_watch) (n := 2) (c5_become hl _) dX5_watch_39 gX5_watch_X5_become rfl hd_X5_become rfl ⟨by decide, by decide⟩ ⟨rfl, rfl⟩ (Nat.le_of_ble_eq_true rfl) ⟨by decide, by decide⟩ sm_mod (by decide) rfl rfl (fun v m9 hp => ?_) (fun _ _ hx => hx.elim)
      obtain ⟨rfl, rfl⟩ := hp
      refine PW.iload_n (i := 2) dX5_watch_42 rfl rfl ?_
      refine PW.iconst (v := 3) dX5_watch_43 (by decide) ?_
      refine PW.icmp_ne (tgt := 54) dX5_watch_44 (by decide) (fun _ => ?_) (fun h44 => absurd h44 (ne_of_st c1 (by decide)))
      refine PW.iload_n (i := 2) dX5_watch_54 rfl rfl ?_
      refine PW.bipush (v := 7) dX5_watch_55 (by decide) ?_
      refine PW.icmp_ne (tgt := 81) dX5_watch_57 (by decide) (fun _ => ?_) (fun h57 => absurd h57 (ne_of_st c1 (by decide)))
      exact PW.vret dX5_watch_81 rfl ⟨rfl, by rw [g_watch, if_pos hA]⟩ (by decide) (by decide)
  · by_cases hB : act2 (N l 1) (N 39 5 - N l 2)
    · rcases hB with ⟨c1, hg⟩ | ⟨c1, hg⟩
      · have hB : act2 (N l 1) (N 39 5 - N l 2) := Or.inl ⟨c1, hg⟩
        refine PW.aload_n (i := 0) dX5_watch_0 rfl rfl ?_
        refine PW.getf FX5_watch_7 dX5_watch_1 sm_mod rfl ?_
        refine PW.iload_n (i := 1) dX5_watch_4 rfl rfl ?_
        refine PW.iald dX5_watch_5 ma_state rfl (Nat.lt_trans hl (by decide)) (mg_state hl) ?_
        refine PW.istore_n (i := 2) dX5_watch_6 rfl (by decide) rfl ?_
        refine PW.aload_n (i := 0) dX5_watch_7 rfl rfl ?_
        refine PW.getf FX5_watch_87 dX5_watch_8 sm_mod rfl ?_
        refine PW.aload_n (i := 0) dX5_watch_11 rfl rfl ?_
        refine PW.getf FX5_watch_13 dX5_watch_12 sm_mod rfl ?_
        refine PW.iload_n (i := 1) dX5_watch_15 rfl rfl ?_
        refine PW.iald dX5_watch_16 ma_since rfl (Nat.lt_trans hl (by decide)) (mg_since hl) ?_
        refine PW.isub dX5_watch_17 ?_
        refine PW.istore_n (i := 3) dX5_watch_18 rfl (by decide) rfl ?_
        refine PW.iload_n (i := 2) dX5_watch_19 rfl rfl ?_
        refine PW.iconst (v := 1) dX5_watch_20 (by decide) ?_
        refine PW.icmp_eq (tgt := 29) dX5_watch_21 (by decide) (fun h21 => absurd h21 (ne_of_st c1 (by decide))) (fun _ => ?_)
        refine PW.iload_n (i := 2) dX5_watch_24 rfl rfl ?_
        refine PW.iconst (v := 2) dX5_watch_25 (by decide) ?_
        refine PW.icmp_ne (tgt := 42) dX5_watch_26 (by decide) (fun _ => ?_) (fun h26 => absurd h26 (ne_of_st c1 (by decide)))
        refine PW.iload_n (i := 2) dX5_watch_42 rfl rfl ?_
        refine PW.iconst (v := 3) dX5_watch_43 (by decide) ?_
        refine PW.icmp_ne (tgt := 54) dX5_watch_44 (by decide) (fun h44 => absurd h44 (fun z => z c1)) (fun _ => ?_)
        refine PW.iload_n (i := 3) dX5_watch_47 rfl rfl ?_
        refine PW.sipush (v := 300) dX5_watch_48 (by decide) ?_
        refine PW.icmp_ge (tgt := 67) dX5_watch_51 (by decide) (fun _ => ?_) (fun h51 => absurd hg h51)
        refine PW.aload_n (i := 0) dX5_watch_67 rfl rfl ?_
        refine PW.iload_n (i := 1) dX5_watch_68 rfl rfl ?_
        refine PW.callV (k := kX5_watch) (n := 1) (c5_leave hQ hS hl (fun z => absurd z (ne_of_st c1 (by decide)))) dX5_watch_69 gX5_watch_X5_leave rfl hd_X5_leave rfl ⟨by decide, by decide⟩ ⟨rfl, rfl⟩ (Nat.le_of_ble_eq_true rfl) ⟨by decide, by decide⟩ sm_mod (by decide) rfl rfl (fun v m9 hp => ?_) (fun _ _ hx => hx.elim)
        obtain ⟨rfl, rfl⟩ := hp
        refine PW.aload_n (i := 0) dX5_watch_72 rfl rfl ?_
        refine PW.iload_n (i := 1) dX5_watch_73 rfl rfl ?_
        refine PW.callV (k := kX5_watch) (n := 1) (c5_busy hl) dX5_watch_74 gX5_watch_X5_busy rfl hd_X5_busy rfl ⟨by decide, by decide⟩ ⟨rfl, rfl⟩ (Nat.le_of_ble_eq_true rfl) ⟨by decide, by decide⟩ sm_mod (by decide) rfl rfl (fun v m9 hp => ?_) (fun _ _ hx => hx.elim)
        obtain ⟨rfl, rfl⟩ := hp
        refine PW.aload_n (i := 0) dX5_watch_77 rfl rfl ?_
        refine PW.callV (k := kX5_watch) (n := 0) (c5_settle (GN.leave hQ hI hS hl).1) dX5_watch_78 gX5_watch_X5_settle rfl hd_X5_settle rfl ⟨by decide, by decide⟩ ⟨rfl, rfl⟩ (Nat.le_of_ble_eq_true rfl) ⟨by decide, by decide⟩ sm_mod (by decide) rfl rfl (fun v m9 hp => ?_) (fun _ _ hx => hx.elim)
        obtain ⟨rfl, rfl⟩ := hp
        exact PW.vret dX5_watch_81 rfl ⟨rfl, by rw [g_watch, if_neg hA, if_pos hB]⟩ (by decide) (by decide)
      · have hB : act2 (N l 1) (N 39 5 - N l 2) := Or.inr ⟨c1, hg⟩
        refine PW.aload_n (i := 0) dX5_watch_0 rfl rfl ?_
        refine PW.getf FX5_watch_7 dX5_watch_1 sm_mod rfl ?_
        refine PW.iload_n (i := 1) dX5_watch_4 rfl rfl ?_
        refine PW.iald dX5_watch_5 ma_state rfl (Nat.lt_trans hl (by decide)) (mg_state hl) ?_
        refine PW.istore_n (i := 2) dX5_watch_6 rfl (by decide) rfl ?_
        refine PW.aload_n (i := 0) dX5_watch_7 rfl rfl ?_
        refine PW.getf FX5_watch_87 dX5_watch_8 sm_mod rfl ?_
        refine PW.aload_n (i := 0) dX5_watch_11 rfl rfl ?_
        refine PW.getf FX5_watch_13 dX5_watch_12 sm_mod rfl ?_
        refine PW.iload_n (i := 1) dX5_watch_15 rfl rfl ?_
        refine PW.iald dX5_watch_16 ma_since rfl (Nat.lt_trans hl (by decide)) (mg_since hl) ?_
        refine PW.isub dX5_watch_17 ?_
        refine PW.istore_n (i := 3) dX5_watch_18 rfl (by decide) rfl ?_
        refine PW.iload_n (i := 2) dX5_watch_19 rfl rfl ?_
        refine PW.iconst (v := 1) dX5_watch_20 (by decide) ?_
        refine PW.icmp_eq (tgt := 29) dX5_watch_21 (by decide) (fun h21 => absurd h21 (ne_of_st c1 (by decide))) (fun _ => ?_)
        refine PW.iload_n (i := 2) dX5_watch_24 rfl rfl ?_
        refine PW.iconst (v := 2) dX5_watch_25 (by decide) ?_
        refine PW.icmp_ne (tgt := 42) dX5_watch_26 (by decide) (fun _ => ?_) (fun h26 => absurd h26 (ne_of_st c1 (by decide)))
        refine PW.iload_n (i := 2) dX5_watch_42 rfl rfl ?_
        refine PW.iconst (v := 3) dX5_watch_43 (by decide) ?_
        refine PW.icmp_ne (tgt := 54) dX5_watch_44 (by decide) (fun _ => ?_) (fun h44 => absurd h44 (ne_of_st c1 (by decide)))
        refine PW.iload_n (i := 2) dX5_watch_54 rfl rfl ?_
        refine PW.bipush (v := 7) dX5_watch_55 (by decide) ?_
        refine PW.icmp_ne (tgt := 81) dX5_watch_57 (by decide) (fun h57 => absurd h57 (fun z => z c1)) (fun _ => ?_)
        refine PW.iload_n (i := 3) dX5_watch_60 rfl rfl ?_
        refine PW.sipush (v := 600) dX5_watch_61 (by decide) ?_
        refine PW.icmp_lt (tgt := 81) dX5_watch_64 (by decide) (fun h64 => absurd h64 (Int32.not_lt.mpr hg)) (fun _ => ?_)
        refine PW.aload_n (i := 0) dX5_watch_67 rfl rfl ?_
        refine PW.iload_n (i := 1) dX5_watch_68 rfl rfl ?_
        refine PW.callV (k := kX5_watch) (n := 1) (c5_leave hQ hS hl (fun z => absurd z (ne_of_st c1 (by decide)))) dX5_watch_69 gX5_watch_X5_leave rfl hd_X5_leave rfl ⟨by decide, by decide⟩ ⟨rfl, rfl⟩ (Nat.le_of_ble_eq_true rfl) ⟨by decide, by decide⟩ sm_mod (by decide) rfl rfl (fun v m9 hp => ?_) (fun _ _ hx => hx.elim)
        obtain ⟨rfl, rfl⟩ := hp
        refine PW.aload_n (i := 0) dX5_watch_72 rfl rfl ?_
        refine PW.iload_n (i := 1) dX5_watch_73 rfl rfl ?_
        refine PW.callV (k := kX5_watch) (n := 1) (c5_busy hl) dX5_watch_74 gX5_watch_X5_busy rfl hd_X5_busy rfl ⟨by decide, by decide⟩ ⟨rfl, rfl⟩ (Nat.le_of_ble_eq_true rfl) ⟨by decide, by decide⟩ sm_mod (by decide) rfl rfl (fun v m9 hp => ?_) (fun _ _ hx => hx.elim)
        obtain ⟨rfl, rfl⟩ := hp
        refine PW.aload_n (i := 0) dX5_watch_77 rfl rfl ?_
        refine PW.callV (k := kX5_watch) (n := 0) (c5_settle (GN.leave hQ hI hS hl).1) dX5_watch_78 gX5_watch_X5_settle rfl hd_X5_settle rfl ⟨by decide, by decide⟩ ⟨rfl, rfl⟩ (Nat.le_of_ble_eq_true rfl) ⟨by decide, by decide⟩ sm_mod (by decide) rfl rfl (fun v m9 hp => ?_) (fun _ _ hx => hx.elim)
        obtain ⟨rfl, rfl⟩ := hp
        exact PW.vret dX5_watch_81 rfl ⟨rfl, by rw [g_watch, if_neg hA, if_pos hB]⟩ (by decide) (by decide)
    · skip
      refine PW.aload_n (i := 0) dX5_watch_0 rfl rfl ?_
      refine PW.getf FX5_watch_7 dX5_watch_1 sm_mod rfl ?_
      refine PW.iload_n (i := 1) dX5_watch_4 rfl rfl ?_
      refine PW.iald dX5_watch_5 ma_state rfl (Nat.lt_trans hl (by decide)) (mg_state hl) ?_
      refine PW.istore_n (i := 2) dX5_watch_6 rfl (by decide) rfl ?_
      refine PW.aload_n (i := 0) dX5_watch_7 rfl rfl ?_
      refine PW.getf FX5_watch_87 dX5_watch_8 sm_mod rfl ?_
      refine PW.aload_n (i := 0) dX5_watch_11 rfl rfl ?_
      refine PW.getf FX5_watch_13 dX5_watch_12 sm_mod rfl ?_
      refine PW.iload_n (i := 1) dX5_watch_15 rfl rfl ?_
      refine PW.iald dX5_watch_16 ma_since rfl (Nat.lt_trans hl (by decide)) (mg_since hl) ?_
      refine PW.isub dX5_watch_17 ?_
      refine PW.istore_n (i := 3) dX5_watch_18 rfl (by decide) rfl ?_
      refine PW.iload_n (i := 2) dX5_watch_19 rfl rfl ?_
      refine PW.iconst (v := 1) dX5_watch_20 (by decide) ?_
      refine PW.icmp_eq (tgt := 29) dX5_watch_21 (by decide) (fun h21 => ?_) (fun h21 => ?_)
      · refine PW.iload_n (i := 3) dX5_watch_29 rfl rfl ?_
        refine PW.bipush (v := 100) dX5_watch_30 (by decide) ?_
        refine PW.icmp_lt (tgt := 42) dX5_watch_32 (by decide) (fun h32 => ?_) (fun h32 => ?_)
        · refine PW.iload_n (i := 2) dX5_watch_42 rfl rfl ?_
          refine PW.iconst (v := 3) dX5_watch_43 (by decide) ?_
          refine PW.icmp_ne (tgt := 54) dX5_watch_44 (by decide) (fun h44 => ?_) (fun h44 => ?_)
          · refine PW.iload_n (i := 2) dX5_watch_54 rfl rfl ?_
            refine PW.bipush (v := 7) dX5_watch_55 (by decide) ?_
            refine PW.icmp_ne (tgt := 81) dX5_watch_57 (by decide) (fun h57 => ?_) (fun h57 => ?_)
            · exact PW.vret dX5_watch_81 rfl ⟨rfl, by rw [g_watch, if_neg hA, if_neg hB]⟩ (by decide) (by decide)
            · refine PW.iload_n (i := 3) dX5_watch_60 rfl rfl ?_
              refine PW.sipush (v := 600) dX5_watch_61 (by decide) ?_
              refine PW.icmp_lt (tgt := 81) dX5_watch_64 (by decide) (fun h64 => ?_) (fun h64 => ?_)
              · exact PW.vret dX5_watch_81 rfl ⟨rfl, by rw [g_watch, if_neg hA, if_neg hB]⟩ (by decide) (by decide)
              · exact absurd (show act2 (N l 1) (N 39 5 - N l 2) from by first | exact Or.inl ⟨h44, h51⟩ | exact Or.inr ⟨h57, Int32.not_lt.mp h64⟩) hB
          · refine PW.iload_n (i := 3) dX5_watch_47 rfl rfl ?_
            refine PW.sipush (v := 300) dX5_watch_48 (by decide) ?_
            refine PW.icmp_ge (tgt := 67) dX5_watch_51 (by decide) (fun h51 => ?_) (fun h51 => ?_)
            · exact absurd (show act2 (N l 1) (N 39 5 - N l 2) from by first | exact Or.inl ⟨h44, h51⟩ | exact Or.inr ⟨h57, Int32.not_lt.mp h64⟩) hB
            · refine PW.iload_n (i := 2) dX5_watch_54 rfl rfl ?_
              refine PW.bipush (v := 7) dX5_watch_55 (by decide) ?_
              refine PW.icmp_ne (tgt := 81) dX5_watch_57 (by decide) (fun h57 => ?_) (fun h57 => ?_)
              · exact PW.vret dX5_watch_81 rfl ⟨rfl, by rw [g_watch, if_neg hA, if_neg hB]⟩ (by decide) (by decide)
              · refine PW.iload_n (i := 3) dX5_watch_60 rfl rfl ?_
                refine PW.sipush (v := 600) dX5_watch_61 (by decide) ?_
                refine PW.icmp_lt (tgt := 81) dX5_watch_64 (by decide) (fun h64 => ?_) (fun h64 => ?_)
                · exact PW.vret dX5_watch_81 rfl ⟨rfl, by rw [g_watch, if_neg hA, if_neg hB]⟩ (by decide) (by decide)
                · exact absurd (show act2 (N l 1) (N 39 5 - N l 2) from by first | exact Or.inl ⟨h44, h51⟩ | exact Or.inr ⟨h57, Int32.not_lt.mp h64⟩) hB
        · exact absurd (show act1 (N l 1) (N 39 5 - N l 2) from ⟨by first | exact Or.inl h21 | exact Or.inr h26, Int32.not_lt.mp h32⟩) hA
      · refine PW.iload_n (i := 2) dX5_watch_24 rfl rfl ?_
        refine PW.iconst (v := 2) dX5_watch_25 (by decide) ?_
        refine PW.icmp_ne (tgt := 42) dX5_watch_26 (by decide) (fun h26 => ?_) (fun h26 => ?_)
        · refine PW.iload_n (i := 2) dX5_watch_42 rfl rfl ?_
          refine PW.iconst (v := 3) dX5_watch_43 (by decide) ?_
          refine PW.icmp_ne (tgt := 54) dX5_watch_44 (by decide) (fun h44 => ?_) (fun h44 => ?_)
          · refine PW.iload_n (i := 2) dX5_watch_54 rfl rfl ?_
            refine PW.bipush (v := 7) dX5_watch_55 (by decide) ?_
            refine PW.icmp_ne (tgt := 81) dX5_watch_57 (by decide) (fun h57 => ?_) (fun h57 => ?_)
            · exact PW.vret dX5_watch_81 rfl ⟨rfl, by rw [g_watch, if_neg hA, if_neg hB]⟩ (by decide) (by decide)
            · refine PW.iload_n (i := 3) dX5_watch_60 rfl rfl ?_
              refine PW.sipush (v := 600) dX5_watch_61 (by decide) ?_
              refine PW.icmp_lt (tgt := 81) dX5_watch_64 (by decide) (fun h64 => ?_) (fun h64 => ?_)
              · exact PW.vret dX5_watch_81 rfl ⟨rfl, by rw [g_watch, if_neg hA, if_neg hB]⟩ (by decide) (by decide)
              · exact absurd (show act2 (N l 1) (N 39 5 - N l 2) from by first | exact Or.inl ⟨h44, h51⟩ | exact Or.inr ⟨h57, Int32.not_lt.mp h64⟩) hB
          · refine PW.iload_n (i := 3) dX5_watch_47 rfl rfl ?_
            refine PW.sipush (v := 300) dX5_watch_48 (by decide) ?_
            refine PW.icmp_ge (tgt := 67) dX5_watch_51 (by decide) (fun h51 => ?_) (fun h51 => ?_)
            · exact absurd (show act2 (N l 1) (N 39 5 - N l 2) from by first | exact Or.inl ⟨h44, h51⟩ | exact Or.inr ⟨h57, Int32.not_lt.mp h64⟩) hB
            · refine PW.iload_n (i := 2) dX5_watch_54 rfl rfl ?_
              refine PW.bipush (v := 7) dX5_watch_55 (by decide) ?_
              refine PW.icmp_ne (tgt := 81) dX5_watch_57 (by decide) (fun h57 => ?_) (fun h57 => ?_)
              · exact PW.vret dX5_watch_81 rfl ⟨rfl, by rw [g_watch, if_neg hA, if_neg hB]⟩ (by decide) (by decide)
              · refine PW.iload_n (i := 3) dX5_watch_60 rfl rfl ?_
                refine PW.sipush (v := 600) dX5_watch_61 (by decide) ?_
                refine PW.icmp_lt (tgt := 81) dX5_watch_64 (by decide) (fun h64 => ?_) (fun h64 => ?_)
                · exact PW.vret dX5_watch_81 rfl ⟨rfl, by rw [g_watch, if_neg hA, if_neg hB]⟩ (by decide) (by decide)
                · exact absurd (show act2 (N l 1) (N 39 5 - N l 2) from by first | exact Or.inl ⟨h44, h51⟩ | exact Or.inr ⟨h57, Int32.not_lt.mp h64⟩) hB
        · refine PW.iload_n (i := 3) dX5_watch_29 rfl rfl ?_
          refine PW.bipush (v := 100) dX5_watch_30 (by decide) ?_
          refine PW.icmp_lt (tgt := 42) dX5_watch_32 (by decide) (fun h32 => ?_) (fun h32 => ?_)
          · refine PW.iload_n (i := 2) dX5_watch_42 rfl rfl ?_
            refine PW.iconst (v := 3) dX5_watch_43 (by decide) ?_
            refine PW.icmp_ne (tgt := 54) dX5_watch_44 (by decide) (fun h44 => ?_) (fun h44 => ?_)
            · refine PW.iload_n (i := 2) dX5_watch_54 rfl rfl ?_
              refine PW.bipush (v := 7) dX5_watch_55 (by decide) ?_
              refine PW.icmp_ne (tgt := 81) dX5_watch_57 (by decide) (fun h57 => ?_) (fun h57 => ?_)
              · exact PW.vret dX5_watch_81 rfl ⟨rfl, by rw [g_watch, if_neg hA, if_neg hB]⟩ (by decide) (by decide)
              · refine PW.iload_n (i := 3) dX5_watch_60 rfl rfl ?_
                refine PW.sipush (v := 600) dX5_watch_61 (by decide) ?_
                refine PW.icmp_lt (tgt := 81) dX5_watch_64 (by decide) (fun h64 => ?_) (fun h64 => ?_)
                · exact PW.vret dX5_watch_81 rfl ⟨rfl, by rw [g_watch, if_neg hA, if_neg hB]⟩ (by decide) (by decide)
                · exact absurd (show act2 (N l 1) (N 39 5 - N l 2) from by first | exact Or.inl ⟨h44, h51⟩ | exact Or.inr ⟨h57, Int32.not_lt.mp h64⟩) hB
            · refine PW.iload_n (i := 3) dX5_watch_47 rfl rfl ?_
              refine PW.sipush (v := 300) dX5_watch_48 (by decide) ?_
              refine PW.icmp_ge (tgt := 67) dX5_watch_51 (by decide) (fun h51 => ?_) (fun h51 => ?_)
              · exact absurd (show act2 (N l 1) (N 39 5 - N l 2) from by first | exact Or.inl ⟨h44, h51⟩ | exact Or.inr ⟨h57, Int32.not_lt.mp h64⟩) hB
              · refine PW.iload_n (i := 2) dX5_watch_54 rfl rfl ?_
                refine PW.bipush (v := 7) dX5_watch_55 (by decide) ?_
                refine PW.icmp_ne (tgt := 81) dX5_watch_57 (by decide) (fun h57 => ?_) (fun h57 => ?_)
                · exact PW.vret dX5_watch_81 rfl ⟨rfl, by rw [g_watch, if_neg hA, if_neg hB]⟩ (by decide) (by decide)
                · refine PW.iload_n (i := 3) dX5_watch_60 rfl rfl ?_
                  refine PW.sipush (v := 600) dX5_watch_61 (by decide) ?_
                  refine PW.icmp_lt (tgt := 81) dX5_watch_64 (by decide) (fun h64 => ?_) (fun h64 => ?_)
                  · exact PW.vret dX5_watch_81 rfl ⟨rfl, by rw [g_watch, if_neg hA, if_neg hB]⟩ (by decide) (by decide)
                  · exact absurd (show act2 (N l 1) (N 39 5 - N l 2) from by first | exact Or.inl ⟨h44, h51⟩ | exact Or.inr ⟨h57, Int32.not_lt.mp h64⟩) hB
          · exact absurd (show act1 (N l 1) (N 39 5 - N l 2) from ⟨by first | exact Or.inl h21 | exact Or.inr h26, Int32.not_lt.mp h32⟩) hA
