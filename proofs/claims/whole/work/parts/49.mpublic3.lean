set_option maxRecDepth 100000 in
set_option maxHeartbeats 4000000 in
theorem ri_loop {M N : dM} {R : pM} {n0 : Nat} (c : Int32) : ∀ (n s : Nat), s + n = 24 → lrL N c n s = f_lowR N c → PW kX5_ringer false n0 (fun v m9 => v = some (.int (f_lowR N c)) ∧ m9 = SM M ++ (MM N ++ R)) (fun _ _ => False) 2 [some (.ref 44), some (.int c), some (.int (nI s))] [] (SM M ++ (MM N ++ R)) 0 0 := by
  intro n
  induction n with
  | zero =>
    intro s hs hr
    refine PW.iload_n (i := 2) dX5_ringer_2 rfl rfl ?_
    refine PW.bipush (v := 24) dX5_ringer_3 (by decide) ?_
    refine PW.icmp_ge (tgt := 36) dX5_ringer_5 (by decide) (fun _ => ?_) (fun h5 => absurd (nI_le (a := 24) (b := s) (by omega) (by omega)) h5)
    refine PW.iconst (v := (-1)) dX5_ringer_36 (by decide) ?_
    exact PW.iret dX5_ringer_37 rfl ⟨by rw [← hr]; rfl, rfl⟩ (by decide) (by decide)
  | succ n ih =>
    intro s hs hr
    refine PW.iload_n (i := 2) dX5_ringer_2 rfl rfl ?_
    refine PW.bipush (v := 24) dX5_ringer_3 (by decide) ?_
    refine PW.icmp_ge (tgt := 36) dX5_ringer_5 (by decide) (fun h5 => absurd h5 (nI_ge (a := s) (b := 24) (by omega) (by decide))) (fun _ => ?_)
    have hs9 : s < 24 := by omega
    refine PW.aload_n (i := 0) dX5_ringer_8 rfl rfl ?_
    refine PW.getf FX5_ringer_7 dX5_ringer_9 sm_mod rfl ?_
    refine PW.iload_n (i := 2) dX5_ringer_12 rfl rfl ?_
    refine PW.iald dX5_ringer_13 ma_state rfl (Nat.lt_trans hs9 (by decide)) (mg_state hs9) ?_
    refine PW.iconst (v := 4) dX5_ringer_14 (by decide) ?_
    refine PW.icmp_ne (tgt := 30) dX5_ringer_15 (by decide) (fun h15 => ?_) (fun h15 => ?_)
    · refine PW.iinc (v := nI (s + 1)) dX5_ringer_30 rfl (nI_1 s) (by decide) rfl ?_
      refine PW.goto (tgt := 2) dX5_ringer_33 (by decide) ?_
      exact ih (s + 1) (by omega) (by rw [← hr, lrL, if_neg (fun q => h15 (of_decide_eq_true q).1)])
    · refine PW.aload_n (i := 0) dX5_ringer_18 rfl rfl ?_
      refine PW.getf FX5_ringer_22 dX5_ringer_19 sm_mod rfl ?_
      refine PW.iload_n (i := 2) dX5_ringer_22 rfl rfl ?_
      refine PW.iald dX5_ringer_23 ma_other rfl (Nat.lt_trans hs9 (by decide)) (mg_other hs9) ?_
      refine PW.iload_n (i := 1) dX5_ringer_24 rfl rfl ?_
      refine PW.icmp_ne (tgt := 30) dX5_ringer_25 (by decide) (fun h25 => ?_) (fun h25 => ?_)
      · refine PW.iinc (v := nI (s + 1)) dX5_ringer_30 rfl (nI_1 s) (by decide) rfl ?_
        refine PW.goto (tgt := 2) dX5_ringer_33 (by decide) ?_
        exact ih (s + 1) (by omega) (by rw [← hr, lrL, if_neg (fun q => h25 (of_decide_eq_true q).2)])
      · refine PW.iload_n (i := 2) dX5_ringer_28 rfl rfl ?_
        exact PW.iret dX5_ringer_29 rfl ⟨by rw [← hr, lrL, if_pos (show f_rfor N s c = true from decide_eq_true ⟨h15, h25⟩)], rfl⟩ (by decide) (by decide)
set_option maxRecDepth 100000 in
set_option maxHeartbeats 4000000 in
theorem c5_ringer {M N : dM} {R : pM} (c : Int32) (l9 : Launch) : pMet l9 yX5_ringer kX5_ringer false [.ref 44, .int c] (SM M ++ (MM N ++ R)) (fun v m9 => v = some (.int (f_lowR N c)) ∧ m9 = SM M ++ (MM (N) ++ R)) (fun _ _ => False) := by
  refine pMet.of (by decide) rfl rfl rfl (by intro v hv; simp only [List.mem_cons, List.not_mem_nil, or_false] at hv; rcases hv with rfl | rfl <;> rfl) (Nat.le_of_ble_eq_true rfl) ?_
  show PW _ _ _ _ _ 0 [some (.ref 44), some (.int c), none] [] (SM M ++ (MM N ++ R)) 0 0
  refine PW.iconst (v := 0) dX5_ringer_0 (by decide) ?_
  refine PW.istore_n (i := 2) dX5_ringer_1 rfl (by decide) rfl ?_
  exact ri_loop c 24 0 rfl rfl
def g_rg (N : dM) (l : Nat) : Int32 := if N l 1 = 3 then f_lowR N (nI l) else -1
def g_line (N : dM) (l w : Nat) : Int32 :=
  if w = 0 then N l 1 else if w = 1 then (if N l 1 = 3 then g_rg N l else N l 3) else if w = 2 then (if g_rg N l < 0 then N l 4 else N (g_rg N l).toNatClampNeg 4)
  else if w = 3 then N l 8 + (if N l 1 = 6 ∧ ¬ N l 7 = 0 then g_units N l else 0) else if w = 4 then (if N l 9 = 0 then 0 else 1) else N l 10
theorem g_rg_cases (N : dM) (l : Nat) : g_rg N l = -1 ∨ ∃ t, t < 24 ∧ g_rg N l = nI t := by
  unfold g_rg
  split
  · rcases lrL_cases N (nI l) 24 0 with h | ⟨t, h1, h2, -⟩
    · exact Or.inl h
    · exact Or.inr ⟨t, by omega, h2⟩
  · exact Or.inl rfl
set_option maxRecDepth 100000 in
set_option maxHeartbeats 4000000 in
theorem c5_line_bad {M N : dM} {R : pM} (x y : Int32) (hb : g_in x 0 23 = false ∨ g_in y 0 5 = false) (l9 : Launch) : pMet l9 yX5_line kX5_line false [.ref 44, .int x, .int y] (SM M ++ (MM N ++ R)) (fun v m9 => v = some (.int (0)) ∧ m9 = SM M ++ (MM (up2 N 39 7 1) ++ R)) (fun _ _ => False) := by
  refine pMet.of (by decide) rfl rfl rfl (by intro v hv; simp only [List.mem_cons, List.not_mem_nil, or_false] at hv; rcases hv with rfl | rfl | rfl <;> rfl) (Nat.le_of_ble_eq_true rfl) ?_
  show PW _ _ _ _ _ 0 [some (.ref 44), some (.int x), some (.int y), none] [] (SM M ++ (MM N ++ R)) 0 0
  cases e : g_in x 0 23
  · skip
    refine PW.aload_n (i := 0) dX5_line_0 rfl rfl ?_
    refine PW.iload_n (i := 1) dX5_line_1 rfl rfl ?_
    refine PW.callS (k := kX5_line) (n := 1) (c5_isLine _) dX5_line_2 gX5_line_X5_isLine rfl hs_X5_isLine rfl ⟨by decide, by decide⟩ ⟨rfl, rfl⟩ (Nat.le_of_ble_eq_true rfl) ⟨by decide, by decide⟩ rfl (fun v m9 hp => ?_) (fun _ _ hx => hx.elim)
    obtain ⟨rfl, rfl⟩ := hp
    rw [e]
    refine PW.if_eq (tgt := 17) dX5_line_5 (by decide) (fun _ => ?_) (fun h5 => absurd (by decide) h5)
    refine PW.iconst (v := 1) dX5_line_17 (by decide) ?_
    refine PW.goto (tgt := 22) dX5_line_18 (by decide) ?_
    refine PW.iconst (v := 0) dX5_line_22 (by decide) ?_
    refine PW.callV (k := kX5_line) (n := 2) (c5_throwing true false) dX5_line_23 gX5_line_X5_throwing rfl hd_X5_throwing rfl ⟨by decide, by decide⟩ ⟨rfl, rfl⟩ (Nat.le_of_ble_eq_true rfl) ⟨by decide, by decide⟩ sm_mod (by decide) rfl rfl (fun v m9 hp => ?_) (fun _ _ hx => hx.elim)
    obtain ⟨rfl, rfl⟩ := hp
    refine PW.if_eq (tgt := 31) dX5_line_26 (by decide) (fun h26 => absurd h26 (by decide)) (fun _ => ?_)
    refine PW.iconst (v := 0) dX5_line_29 (by decide) ?_
    exact PW.iret dX5_line_30 rfl ⟨rfl, rfl⟩ (by decide) (by decide)
  · skip
    refine PW.aload_n (i := 0) dX5_line_0 rfl rfl ?_
    refine PW.iload_n (i := 1) dX5_line_1 rfl rfl ?_
    refine PW.callS (k := kX5_line) (n := 1) (c5_isLine _) dX5_line_2 gX5_line_X5_isLine rfl hs_X5_isLine rfl ⟨by decide, by decide⟩ ⟨rfl, rfl⟩ (Nat.le_of_ble_eq_true rfl) ⟨by decide, by decide⟩ rfl (fun v m9 hp => ?_) (fun _ _ hx => hx.elim)
    obtain ⟨rfl, rfl⟩ := hp
    rw [e]
    refine PW.if_eq (tgt := 17) dX5_line_5 (by decide) (fun h5 => absurd h5 (by decide)) (fun _ => ?_)
    refine PW.iload_n (i := 2) dX5_line_8 rfl rfl ?_
    refine PW.iconst (v := 0) dX5_line_9 (by decide) ?_
    refine PW.iconst (v := 5) dX5_line_10 (by decide) ?_
    refine PW.callS (k := kX5_line) (n := 3) (c5_in _ _ _) dX5_line_11 gX5_line_X5_in rfl hs_X5_in rfl ⟨by decide, by decide⟩ ⟨rfl, rfl⟩ (Nat.le_of_ble_eq_true rfl) ⟨by decide, by decide⟩ rfl (fun v m9 hp => ?_) (fun _ _ hx => hx.elim)
    obtain ⟨rfl, rfl⟩ := hp
    rw [(hb.resolve_left (by rw [e]; decide))]
    refine PW.if_ne (tgt := 21) dX5_line_14 (by decide) (fun h14 => absurd h14 (by decide)) (fun _ => ?_)
    refine PW.iconst (v := 1) dX5_line_17 (by decide) ?_
    refine PW.goto (tgt := 22) dX5_line_18 (by decide) ?_
    refine PW.iconst (v := 0) dX5_line_22 (by decide) ?_
    refine PW.callV (k := kX5_line) (n := 2) (c5_throwing true false) dX5_line_23 gX5_line_X5_throwing rfl hd_X5_throwing rfl ⟨by decide, by decide⟩ ⟨rfl, rfl⟩ (Nat.le_of_ble_eq_true rfl) ⟨by decide, by decide⟩ sm_mod (by decide) rfl rfl (fun v m9 hp => ?_) (fun _ _ hx => hx.elim)
    obtain ⟨rfl, rfl⟩ := hp
    refine PW.if_eq (tgt := 31) dX5_line_26 (by decide) (fun h26 => absurd h26 (by decide)) (fun _ => ?_)
    refine PW.iconst (v := 0) dX5_line_29 (by decide) ?_
    exact PW.iret dX5_line_30 rfl ⟨rfl, rfl⟩ (by decide) (by decide)
set_option maxRecDepth 100000 in
set_option maxHeartbeats 4000000 in
theorem li_end {M N : dM} {R : pM} {n0 l w : Nat} (hl : l < 24) (hw : w < 6) : PW kX5_line false n0 (fun v m9 => v = some (.int (g_line N l w)) ∧ m9 = SM M ++ (MM N ++ R)) (fun _ _ => False) 52 [some (.ref 44), some (.int (nI l)), some (.int (nI w)), some (.int (g_rg N l))] [.int (nI w)] (SM M ++ (MM N ++ R)) 0 0 := by
  rcases (show w = 0 ∨ w = 1 ∨ w = 2 ∨ w = 3 ∨ w = 4 ∨ w = 5 by omega) with rfl | rfl | rfl | rfl | rfl | rfl
  · refine PW.tableIn (off := 36) (tgt := 88) dX5_line_52 (by decide) (by decide) (by decide) (by decide) ?_
    refine PW.aload_n (i := 0) dX5_line_88 rfl rfl ?_
    refine PW.getf FX5_line_7 dX5_line_89 sm_mod rfl ?_
    refine PW.iload_n (i := 1) dX5_line_92 rfl rfl ?_
    refine PW.iald dX5_line_93 ma_state rfl (Nat.lt_trans hl (by decide)) (mg_state hl) ?_
    exact PW.iret dX5_line_94 rfl ⟨rfl, rfl⟩ (by decide) (by decide)
  · refine PW.tableIn (off := 43) (tgt := 95) dX5_line_52 (by decide) (by decide) (by decide) (by decide) ?_
    refine PW.aload_n (i := 0) dX5_line_95 rfl rfl ?_
    refine PW.getf FX5_line_7 dX5_line_96 sm_mod rfl ?_
    refine PW.iload_n (i := 1) dX5_line_99 rfl rfl ?_
    refine PW.iald dX5_line_100 ma_state rfl (Nat.lt_trans hl (by decide)) (mg_state hl) ?_
    refine PW.iconst (v := 3) dX5_line_101 (by decide) ?_
    refine PW.icmp_ne (tgt := 109) dX5_line_102 (by decide) (fun h102 => ?_) (fun h102 => ?_)
    · refine PW.aload_n (i := 0) dX5_line_109 rfl rfl ?_
      refine PW.getf FX5_line_22 dX5_line_110 sm_mod rfl ?_
      refine PW.iload_n (i := 1) dX5_line_113 rfl rfl ?_
      refine PW.iald dX5_line_114 ma_other rfl (Nat.lt_trans hl (by decide)) (mg_other hl) ?_
      exact PW.iret dX5_line_115 rfl ⟨by show some (Value.int _) = some (.int (if N l 1 = 3 then _ else _)); first | rw [if_pos h102] | rw [if_neg h102], rfl⟩ (by decide) (by decide)
    · refine PW.iload_n (i := 3) dX5_line_105 rfl rfl ?_
      refine PW.goto (tgt := 115) dX5_line_106 (by decide) ?_
      exact PW.iret dX5_line_115 rfl ⟨by show some (Value.int _) = some (.int (if N l 1 = 3 then _ else _)); first | rw [if_pos h102] | rw [if_neg h102], rfl⟩ (by decide) (by decide)
  · refine PW.tableIn (off := 64) (tgt := 116) dX5_line_52 (by decide) (by decide) (by decide) (by decide) ?_
    refine PW.iload_n (i := 3) dX5_line_116 rfl rfl ?_
    refine PW.if_lt (tgt := 129) dX5_line_117 (by decide) (fun h117 => ?_) (fun h117 => ?_)
    · refine PW.aload_n (i := 0) dX5_line_129 rfl rfl ?_
      refine PW.getf FX5_line_25 dX5_line_130 sm_mod rfl ?_
      refine PW.iload_n (i := 1) dX5_line_133 rfl rfl ?_
      refine PW.iald dX5_line_134 ma_slotOf rfl (Nat.lt_trans hl (by decide)) (mg_slotOf hl) ?_
      exact PW.iret dX5_line_135 rfl ⟨by show some (Value.int _) = some (.int (if g_rg N l < 0 then _ else _)); first | rw [if_pos h117] | rw [if_neg h117, eq, nI_clamp (by omega)], rfl⟩ (by decide) (by decide)
    · obtain ⟨q, hq, eq⟩ := (g_rg_cases N l).resolve_left (fun z => by rw [z] at h117; exact h117 (by decide))
      refine PW.aload_n (i := 0) dX5_line_120 rfl rfl ?_
      refine PW.getf FX5_line_25 dX5_line_121 sm_mod rfl ?_
      refine PW.iload_n (i := 3) dX5_line_124 rfl rfl ?_
      refine PW.iald dX5_line_125 ma_slotOf eq (Nat.lt_trans hq (by decide)) (mg_slotOf hq) ?_
      refine PW.goto (tgt := 135) dX5_line_126 (by decide) ?_
      exact PW.iret dX5_line_135 rfl ⟨by show some (Value.int _) = some (.int (if g_rg N l < 0 then _ else _)); first | rw [if_pos h117] | rw [if_neg h117, eq, nI_clamp (by omega)], rfl⟩ (by decide) (by decide)
  · refine PW.tableIn (off := 84) (tgt := 136) dX5_line_52 (by decide) (by decide) (by decide) (by decide) ?_
    refine PW.aload_n (i := 0) dX5_line_136 rfl rfl ?_
    refine PW.getf FX5_line_38 dX5_line_137 sm_mod rfl ?_
    refine PW.iload_n (i := 1) dX5_line_140 rfl rfl ?_
    refine PW.iald dX5_line_141 ma_paid rfl (Nat.lt_trans hl (by decide)) (mg_paid hl) ?_
    refine PW.aload_n (i := 0) dX5_line_142 rfl rfl ?_
    refine PW.getf FX5_line_7 dX5_line_143 sm_mod rfl ?_
    refine PW.iload_n (i := 1) dX5_line_146 rfl rfl ?_
    refine PW.iald dX5_line_147 ma_state rfl (Nat.lt_trans hl (by decide)) (mg_state hl) ?_
    refine PW.bipush (v := 6) dX5_line_148 (by decide) ?_
    refine PW.icmp_ne (tgt := 170) dX5_line_150 (by decide) (fun h150 => ?_) (fun h150 => ?_)
    · refine PW.iconst (v := 0) dX5_line_170 (by decide) ?_
      refine PW.iadd dX5_line_171 ?_
      exact PW.iret dX5_line_172 rfl ⟨by simp [g_line, h150], rfl⟩ (by decide) (by decide)
    · refine PW.aload_n (i := 0) dX5_line_153 rfl rfl ?_
      refine PW.getf FX5_line_41 dX5_line_154 sm_mod rfl ?_
      refine PW.iload_n (i := 1) dX5_line_157 rfl rfl ?_
      refine PW.zald dX5_line_158 ma_pays rfl (Nat.lt_trans hl (by decide)) (mg_pays hl) ?_
      refine PW.if_eq (tgt := 170) dX5_line_159 (by decide) (fun h159 => ?_) (fun h159 => ?_)
      · refine PW.iconst (v := 0) dX5_line_170 (by decide) ?_
        refine PW.iadd dX5_line_171 ?_
        exact PW.iret dX5_line_172 rfl ⟨by simp [g_line, h150, h159], rfl⟩ (by decide) (by decide)
      · refine PW.aload_n (i := 0) dX5_line_162 rfl rfl ?_
        refine PW.iload_n (i := 1) dX5_line_163 rfl rfl ?_
        refine PW.callV (k := kX5_line) (n := 1) (c5_unitsOf hl) dX5_line_164 gX5_line_X5_unitsOf rfl hd_X5_unitsOf rfl ⟨by decide, by decide⟩ ⟨rfl, rfl⟩ (Nat.le_of_ble_eq_true rfl) ⟨by decide, by decide⟩ sm_mod (by decide) rfl rfl (fun v m9 hp => ?_) (fun _ _ hx => hx.elim)
        obtain ⟨rfl, rfl⟩ := hp
        refine PW.goto (tgt := 171) dX5_line_167 (by decide) ?_
        refine PW.iadd dX5_line_171 ?_
        exact PW.iret dX5_line_172 rfl ⟨by simp [g_line, h150, h159], rfl⟩ (by decide) (by decide)
  · refine PW.tableIn (off := 121) (tgt := 173) dX5_line_52 (by decide) (by decide) (by decide) (by decide) ?_
    refine PW.aload_n (i := 0) dX5_line_173 rfl rfl ?_
    refine PW.getf FX5_line_34 dX5_line_174 sm_mod rfl ?_
    refine PW.iload_n (i := 1) dX5_line_177 rfl rfl ?_
    refine PW.zald dX5_line_178 ma_quiet rfl (Nat.lt_trans hl (by decide)) (mg_quiet hl) ?_
    refine PW.if_eq (tgt := 186) dX5_line_179 (by decide) (fun h179 => ?_) (fun h179 => ?_)
    · refine PW.iconst (v := 0) dX5_line_186 (by decide) ?_
      exact PW.iret dX5_line_187 rfl ⟨by show some (Value.int _) = some (.int (if N l 9 = 0 then _ else _)); first | rw [if_pos h179] | rw [if_neg h179], rfl⟩ (by decide) (by decide)
    · refine PW.iconst (v := 1) dX5_line_182 (by decide) ?_
      refine PW.goto (tgt := 187) dX5_line_183 (by decide) ?_
      exact PW.iret dX5_line_187 rfl ⟨by show some (Value.int _) = some (.int (if N l 9 = 0 then _ else _)); first | rw [if_pos h179] | rw [if_neg h179], rfl⟩ (by decide) (by decide)
  · refine PW.tableOut (tgt := 188) dX5_line_52 (by decide) (by decide) ?_
    refine PW.aload_n (i := 0) dX5_line_188 rfl rfl ?_
    refine PW.getf FX5_line_47 dX5_line_189 sm_mod rfl ?_
    refine PW.iload_n (i := 1) dX5_line_192 rfl rfl ?_
    refine PW.iald dX5_line_193 ma_camper rfl (Nat.lt_trans hl (by decide)) (mg_camper hl) ?_
    exact PW.iret dX5_line_194 rfl ⟨rfl, rfl⟩ (by decide) (by decide)
set_option maxRecDepth 100000 in
set_option maxHeartbeats 4000000 in
theorem c5_line_ok {M N : dM} {R : pM} {l w : Nat} (hl : l < 24) (hw : w < 6) (l9 : Launch) : pMet l9 yX5_line kX5_line false [.ref 44, .int (nI l), .int (nI w)] (SM M ++ (MM N ++ R)) (fun v m9 => v = some (.int (g_line (Z N) l w)) ∧ m9 = SM M ++ (MM (Z N) ++ R)) (fun _ _ => False) := by
  refine pMet.of (by decide) rfl rfl rfl (by intro v hv; simp only [List.mem_cons, List.not_mem_nil, or_false] at hv; rcases hv with rfl | rfl | rfl <;> rfl) (Nat.le_of_ble_eq_true rfl) ?_
  show PW _ _ _ _ _ 0 [some (.ref 44), some (.int (nI l)), some (.int (nI w)), none] [] (SM M ++ (MM N ++ R)) 0 0
  refine PW.aload_n (i := 0) dX5_line_0 rfl rfl ?_
  refine PW.iload_n (i := 1) dX5_line_1 rfl rfl ?_
  refine PW.callS (k := kX5_line) (n := 1) (c5_isLine _) dX5_line_2 gX5_line_X5_isLine rfl hs_X5_isLine rfl ⟨by decide, by decide⟩ ⟨rfl, rfl⟩ (Nat.le_of_ble_eq_true rfl) ⟨by decide, by decide⟩ rfl (fun v m9 hp => ?_) (fun _ _ hx => hx.elim)
  obtain ⟨rfl, rfl⟩ := hp
  rw [inL hl]
  refine PW.if_eq (tgt := 17) dX5_line_5 (by decide) (fun h5 => absurd h5 (by decide)) (fun _ => ?_)
  refine PW.iload_n (i := 2) dX5_line_8 rfl rfl ?_
  refine PW.iconst (v := 0) dX5_line_9 (by decide) ?_
  refine PW.iconst (v := 5) dX5_line_10 (by decide) ?_
  refine PW.callS (k := kX5_line) (n := 3) (c5_in _ _ _) dX5_line_11 gX5_line_X5_in rfl hs_X5_in rfl ⟨by decide, by decide⟩ ⟨rfl, rfl⟩ (Nat.le_of_ble_eq_true rfl) ⟨by decide, by decide⟩ rfl (fun v m9 hp => ?_) (fun _ _ hx => hx.elim)
  obtain ⟨rfl, rfl⟩ := hp
  rw [in5 hw]
  refine PW.if_ne (tgt := 21) dX5_line_14 (by decide) (fun _ => ?_) (fun h14 => absurd h14 (by decide))
  refine PW.iconst (v := 0) dX5_line_21 (by decide) ?_
  refine PW.iconst (v := 0) dX5_line_22 (by decide) ?_
  refine PW.callV (k := kX5_line) (n := 2) (c5_throwing false false) dX5_line_23 gX5_line_X5_throwing rfl hd_X5_throwing rfl ⟨by decide, by decide⟩ ⟨rfl, rfl⟩ (Nat.le_of_ble_eq_true rfl) ⟨by decide, by decide⟩ sm_mod (by decide) rfl rfl (fun v m9 hp => ?_) (fun _ _ hx => hx.elim)
  obtain ⟨rfl, rfl⟩ := hp
  rw [show up2 N 39 7 (thr false false) = Z N from rfl]
  refine PW.if_eq (tgt := 31) dX5_line_26 (by decide) (fun _ => ?_) (fun h26 => absurd (by decide) h26)
  refine PW.aload_n (i := 0) dX5_line_31 rfl rfl ?_
  refine PW.getf FX5_line_7 dX5_line_32 sm_mod rfl ?_
  refine PW.iload_n (i := 1) dX5_line_35 rfl rfl ?_
  refine PW.iald dX5_line_36 ma_state rfl (Nat.lt_trans hl (by decide)) (mg_state hl) ?_
  refine PW.iconst (v := 3) dX5_line_37 (by decide) ?_
  refine PW.icmp_ne (tgt := 49) dX5_line_38 (by decide) (fun h38 => ?_) (fun h38 => ?_)
  · refine PW.iconst (v := (-1)) dX5_line_49 (by decide) ?_
    rw [show ((-1 : Int32)) = g_rg (Z N) l by rw [g_rg, if_neg h38]]
    refine PW.istore_n (i := 3) dX5_line_50 rfl (by decide) rfl ?_
    refine PW.iload_n (i := 2) dX5_line_51 rfl rfl ?_
    exact li_end hl hw
  · refine PW.aload_n (i := 0) dX5_line_41 rfl rfl ?_
    refine PW.iload_n (i := 1) dX5_line_42 rfl rfl ?_
    refine PW.callV (k := kX5_line) (n := 1) (c5_ringer _) dX5_line_43 gX5_line_X5_ringer rfl hd_X5_ringer rfl ⟨by decide, by decide⟩ ⟨rfl, rfl⟩ (Nat.le_of_ble_eq_true rfl) ⟨by decide, by decide⟩ sm_mod (by decide) rfl rfl (fun v m9 hp => ?_) (fun _ _ hx => hx.elim)
    obtain ⟨rfl, rfl⟩ := hp
    rw [show f_lowR (Z N) (nI l) = g_rg (Z N) l by rw [g_rg, if_pos h38]]
    refine PW.goto (tgt := 50) dX5_line_46 (by decide) ?_
    refine PW.istore_n (i := 3) dX5_line_50 rfl (by decide) rfl ?_
    refine PW.iload_n (i := 2) dX5_line_51 rfl rfl ?_
    exact li_end hl hw
def cnL (N : dM) : Nat → Nat → Int32 → Int32
  | 0, _, a => a
  | n + 1, s, a => cnL N n (s + 1) (a + (if N (24 + s / 8) (s % 8) < 0 then 0 else 1))
def g_count (N : dM) (x : Int32) : Int32 := if x = 0 then N 39 6 else if x = 1 then N 37 1 else cnL N 32 0 0
theorem mg_slotk {N : dM} {k : Nat} (h : k < 32) : (maF N 14)[k]? = some (.int (N (24 + k / 8) (k % 8))) := maF_get (c := 14) h
set_option maxRecDepth 100000 in
set_option maxHeartbeats 4000000 in
theorem c5_count_bad {M N : dM} {R : pM} (x : Int32) (hb : g_in x 0 2 = false) (l9 : Launch) : pMet l9 yX5_count kX5_count false [.ref 44, .int x] (SM M ++ (MM N ++ R)) (fun v m9 => v = some (.int (0)) ∧ m9 = SM M ++ (MM (up2 N 39 7 1) ++ R)) (fun _ _ => False) := by
  refine pMet.of (by decide) rfl rfl rfl (by intro v hv; simp only [List.mem_cons, List.not_mem_nil, or_false] at hv; rcases hv with rfl | rfl <;> rfl) (Nat.le_of_ble_eq_true rfl) ?_
  show PW _ _ _ _ _ 0 [some (.ref 44), some (.int x), none, none] [] (SM M ++ (MM N ++ R)) 0 0
  refine PW.aload_n (i := 0) dX5_count_0 rfl rfl ?_
  refine PW.iload_n (i := 1) dX5_count_1 rfl rfl ?_
  refine PW.iconst (v := 0) dX5_count_2 (by decide) ?_
  refine PW.iconst (v := 2) dX5_count_3 (by decide) ?_
  refine PW.callS (k := kX5_count) (n := 3) (c5_in _ _ _) dX5_count_4 gX5_count_X5_in rfl hs_X5_in rfl ⟨by decide, by decide⟩ ⟨rfl, rfl⟩ (Nat.le_of_ble_eq_true rfl) ⟨by decide, by decide⟩ rfl (fun v m9 hp => ?_) (fun _ _ hx => hx.elim)
  obtain ⟨rfl, rfl⟩ := hp
  rw [hb]
  refine PW.if_ne (tgt := 14) dX5_count_7 (by decide) (fun h7 => absurd h7 (by decide)) (fun _ => ?_)
  refine PW.iconst (v := 1) dX5_count_10 (by decide) ?_
  refine PW.goto (tgt := 15) dX5_count_11 (by decide) ?_
  refine PW.iconst (v := 0) dX5_count_15 (by decide) ?_
  refine PW.callV (k := kX5_count) (n := 2) (c5_throwing true false) dX5_count_16 gX5_count_X5_throwing rfl hd_X5_throwing rfl ⟨by decide, by decide⟩ ⟨rfl, rfl⟩ (Nat.le_of_ble_eq_true rfl) ⟨by decide, by decide⟩ sm_mod (by decide) rfl rfl (fun v m9 hp => ?_) (fun _ _ hx => hx.elim)
  obtain ⟨rfl, rfl⟩ := hp
  refine PW.if_eq (tgt := 24) dX5_count_19 (by decide) (fun h19 => absurd h19 (by decide)) (fun _ => ?_)
  refine PW.iconst (v := 0) dX5_count_22 (by decide) ?_
  exact PW.iret dX5_count_23 rfl ⟨rfl, rfl⟩ (by decide) (by decide)
set_option maxRecDepth 100000 in
set_option maxHeartbeats 4000000 in
theorem cn_loop {M N : dM} {R : pM} {n0 : Nat} {x : Int32} : ∀ (n s : Nat) (a : Int32), s + n = 32 → cnL N n s a = cnL N 32 0 0 → PW kX5_count false n0 (fun v m9 => v = some (.int (g_count N x)) ∧ m9 = SM M ++ (MM N ++ R)) (fun _ _ => False) 28 [some (.ref 44), some (.int x), some (.int a), some (.int (nI s))] [] (SM M ++ (MM N ++ R)) 0 0 := by
  intro n
  induction n with
  | zero =>
    intro s a hs hr
    refine PW.iload_n (i := 3) dX5_count_28 rfl rfl ?_
    refine PW.bipush (v := 32) dX5_count_29 (by decide) ?_
    refine PW.icmp_ge (tgt := 57) dX5_count_31 (by decide) (fun _ => ?_) (fun h31 => absurd (nI_le (a := 32) (b := s) (by omega) (by omega)) h31)
    refine PW.iload_n (i := 1) dX5_count_57 rfl rfl ?_
    refine PW.if_ne (tgt := 68) dX5_count_58 (by decide) (fun h58 => ?_) (fun h58 => ?_)
    · refine PW.iload_n (i := 1) dX5_count_68 rfl rfl ?_
      refine PW.iconst (v := 1) dX5_count_69 (by decide) ?_
      refine PW.icmp_ne (tgt := 80) dX5_count_70 (by decide) (fun h70 => ?_) (fun h70 => ?_)
      · refine PW.iload_n (i := 2) dX5_count_80 rfl rfl ?_
        exact PW.iret dX5_count_81 rfl ⟨by rw [g_count, ← hr]; first | rw [if_pos h58] | rw [if_neg h58, if_pos h70] | (rw [if_neg h58, if_neg h70]; rfl), rfl⟩ (by decide) (by decide)
      · refine PW.aload_n (i := 0) dX5_count_73 rfl rfl ?_
        refine PW.getf FX5_count_97 dX5_count_74 sm_mod rfl ?_
        refine PW.goto (tgt := 81) dX5_count_77 (by decide) ?_
        exact PW.iret dX5_count_81 rfl ⟨by rw [g_count, ← hr]; first | rw [if_pos h58] | rw [if_neg h58, if_pos h70] | (rw [if_neg h58, if_neg h70]; rfl), rfl⟩ (by decide) (by decide)
    · refine PW.aload_n (i := 0) dX5_count_61 rfl rfl ?_
      refine PW.getf FX5_count_123 dX5_count_62 sm_mod rfl ?_
      refine PW.goto (tgt := 81) dX5_count_65 (by decide) ?_
      exact PW.iret dX5_count_81 rfl ⟨by rw [g_count, ← hr]; first | rw [if_pos h58] | rw [if_neg h58, if_pos h70] | (rw [if_neg h58, if_neg h70]; rfl), rfl⟩ (by decide) (by decide)
  | succ n ih =>
    intro s a hs hr
    refine PW.iload_n (i := 3) dX5_count_28 rfl rfl ?_
    refine PW.bipush (v := 32) dX5_count_29 (by decide) ?_
    refine PW.icmp_ge (tgt := 57) dX5_count_31 (by decide) (fun h31 => absurd h31 (nI_ge (a := s) (b := 32) (by omega) (by decide))) (fun _ => ?_)
    refine PW.iload_n (i := 2) dX5_count_34 rfl rfl ?_
    refine PW.aload_n (i := 0) dX5_count_35 rfl rfl ?_
    refine PW.getf FX5_count_53 dX5_count_36 sm_mod rfl ?_
    refine PW.iload_n (i := 3) dX5_count_39 rfl rfl ?_
    refine PW.iald dX5_count_40 ma_slots rfl (by omega) (mg_slotk (by omega)) ?_
    refine PW.if_lt (tgt := 48) dX5_count_41 (by decide) (fun h41 => ?_) (fun h41 => ?_)
    · refine PW.iconst (v := 0) dX5_count_48 (by decide) ?_
      refine PW.iadd dX5_count_49 ?_
      refine PW.istore_n (i := 2) dX5_count_50 rfl (by decide) rfl ?_
      refine PW.iinc (v := nI (s + 1)) dX5_count_51 rfl (nI_1 s) (by decide) rfl ?_
      refine PW.goto (tgt := 28) dX5_count_54 (by decide) ?_
      exact ih (s + 1) _ (by omega) (by rw [← hr, cnL]; first | rw [if_pos h41] | rw [if_neg h41])
    · refine PW.iconst (v := 1) dX5_count_44 (by decide) ?_
      refine PW.goto (tgt := 49) dX5_count_45 (by decide) ?_
      refine PW.iadd dX5_count_49 ?_
      refine PW.istore_n (i := 2) dX5_count_50 rfl (by decide) rfl ?_
      refine PW.iinc (v := nI (s + 1)) dX5_count_51 rfl (nI_1 s) (by decide) rfl ?_
      refine PW.goto (tgt := 28) dX5_count_54 (by decide) ?_
      exact ih (s + 1) _ (by omega) (by rw [← hr, cnL]; first | rw [if_pos h41] | rw [if_neg h41])
set_option maxRecDepth 100000 in
set_option maxHeartbeats 4000000 in
theorem c5_count_ok {M N : dM} {R : pM} (x : Int32) (hx : g_in x 0 2 = true) (l9 : Launch) : pMet l9 yX5_count kX5_count false [.ref 44, .int x] (SM M ++ (MM N ++ R)) (fun v m9 => v = some (.int (g_count (Z N) x)) ∧ m9 = SM M ++ (MM (Z N) ++ R)) (fun _ _ => False) := by
  refine pMet.of (by decide) rfl rfl rfl (by intro v hv; simp only [List.mem_cons, List.not_mem_nil, or_false] at hv; rcases hv with rfl | rfl <;> rfl) (Nat.le_of_ble_eq_true rfl) ?_
  show PW _ _ _ _ _ 0 [some (.ref 44), some (.int x), none, none] [] (SM M ++ (MM N ++ R)) 0 0
  refine PW.aload_n (i := 0) dX5_count_0 rfl rfl ?_
  refine PW.iload_n (i := 1) dX5_count_1 rfl rfl ?_
  refine PW.iconst (v := 0) dX5_count_2 (by decide) ?_
  refine PW.iconst (v := 2) dX5_count_3 (by decide) ?_
  refine PW.callS (k := kX5_count) (n := 3) (c5_in _ _ _) dX5_count_4 gX5_count_X5_in rfl hs_X5_in rfl ⟨by decide, by decide⟩ ⟨rfl, rfl⟩ (Nat.le_of_ble_eq_true rfl) ⟨by decide, by decide⟩ rfl (fun v m9 hp => ?_) (fun _ _ hx => hx.elim)
  obtain ⟨rfl, rfl⟩ := hp
  rw [hx]
  refine PW.if_ne (tgt := 14) dX5_count_7 (by decide) (fun _ => ?_) (fun h7 => absurd h7 (by decide))
  refine PW.iconst (v := 0) dX5_count_14 (by decide) ?_
  refine PW.iconst (v := 0) dX5_count_15 (by decide) ?_
  refine PW.callV (k := kX5_count) (n := 2) (c5_throwing false false) dX5_count_16 gX5_count_X5_throwing rfl hd_X5_throwing rfl ⟨by decide, by decide⟩ ⟨rfl, rfl⟩ (Nat.le_of_ble_eq_true rfl) ⟨by decide, by decide⟩ sm_mod (by decide) rfl rfl (fun v m9 hp => ?_) (fun _ _ hx => hx.elim)
  obtain ⟨rfl, rfl⟩ := hp
  rw [show up2 N 39 7 (thr false false) = Z N from rfl]
  refine PW.if_eq (tgt := 24) dX5_count_19 (by decide) (fun _ => ?_) (fun h19 => absurd (by decide) h19)
  refine PW.iconst (v := 0) dX5_count_24 (by decide) ?_
  refine PW.istore_n (i := 2) dX5_count_25 rfl (by decide) rfl ?_
  refine PW.iconst (v := 0) dX5_count_26 (by decide) ?_
  refine PW.istore_n (i := 3) dX5_count_27 rfl (by decide) rfl ?_
  exact cn_loop 32 0 0 rfl rfl
def okB5 (N : dM) (k : Int32) : Prop := g_in k 0 (N 37 1 - 1) = true ∧ ¬ k + 60 < N 37 1
set_option maxRecDepth 100000 in
set_option maxHeartbeats 4000000 in
theorem c5_book_bad {M N : dM} {R : pM} (x y : Int32) (hb : g_in y 0 3 = false) (l9 : Launch) : pMet l9 yX5_book kX5_book false [.ref 44, .int x, .int y] (SM M ++ (MM N ++ R)) (fun v m9 => v = some (.int (0)) ∧ m9 = SM M ++ (MM (up2 N 39 7 1) ++ R)) (fun _ _ => False) := by
  refine pMet.of (by decide) rfl rfl rfl (by intro v hv; simp only [List.mem_cons, List.not_mem_nil, or_false] at hv; rcases hv with rfl | rfl | rfl <;> rfl) (Nat.le_of_ble_eq_true rfl) ?_
  show PW _ _ _ _ _ 0 [some (.ref 44), some (.int x), some (.int y), none] [] (SM M ++ (MM N ++ R)) 0 0
  refine PW.iload_n (i := 2) dX5_book_0 rfl rfl ?_
  refine PW.iconst (v := 0) dX5_book_1 (by decide) ?_
  refine PW.iconst (v := 3) dX5_book_2 (by decide) ?_
  refine PW.callS (k := kX5_book) (n := 3) (c5_in _ _ _) dX5_book_3 gX5_book_X5_in rfl hs_X5_in rfl ⟨by decide, by decide⟩ ⟨rfl, rfl⟩ (Nat.le_of_ble_eq_true rfl) ⟨by decide, by decide⟩ rfl (fun v m9 hp => ?_) (fun _ _ hx => hx.elim)
  obtain ⟨rfl, rfl⟩ := hp
  rw [hb]
  refine PW.if_ne (tgt := 13) dX5_book_6 (by decide) (fun h6 => absurd h6 (by decide)) (fun _ => ?_)
  refine PW.iconst (v := 1) dX5_book_9 (by decide) ?_
  refine PW.goto (tgt := 14) dX5_book_10 (by decide) ?_
  refine PW.istore_n (i := 3) dX5_book_14 rfl (by decide) rfl ?_
  refine PW.aload_n (i := 0) dX5_book_15 rfl rfl ?_
  refine PW.iload_n (i := 3) dX5_book_16 rfl rfl ?_
  refine PW.iload_n (i := 3) dX5_book_17 rfl rfl ?_
  refine PW.if_ne (tgt := 50) dX5_book_18 (by decide) (fun _ => ?_) (fun h18 => absurd h18 (by decide))
  refine PW.iconst (v := 0) dX5_book_50 (by decide) ?_
  refine PW.callV (k := kX5_book) (n := 2) (c5_throwing true false) dX5_book_51 gX5_book_X5_throwing rfl hd_X5_throwing rfl ⟨by decide, by decide⟩ ⟨rfl, rfl⟩ (Nat.le_of_ble_eq_true rfl) ⟨by decide, by decide⟩ sm_mod (by decide) rfl rfl (fun v m9 hp => ?_) (fun _ _ hx => hx.elim)
  obtain ⟨rfl, rfl⟩ := hp
  refine PW.if_eq (tgt := 59) dX5_book_54 (by decide) (fun h54 => absurd h54 (by decide)) (fun _ => ?_)
  refine PW.iconst (v := 0) dX5_book_57 (by decide) ?_
  exact PW.iret dX5_book_58 rfl ⟨rfl, rfl⟩ (by decide) (by decide)
set_option maxRecDepth 100000 in
set_option maxHeartbeats 4000000 in
theorem c5_book_two {M N : dM} {R : pM} (x y : Int32) (hy : g_in y 0 3 = true) (h2 : ¬ okB5 N x) (l9 : Launch) : pMet l9 yX5_book kX5_book false [.ref 44, .int x, .int y] (SM M ++ (MM N ++ R)) (fun v m9 => v = some (.int (0)) ∧ m9 = SM M ++ (MM (up2 N 39 7 2) ++ R)) (fun _ _ => False) := by
  refine pMet.of (by decide) rfl rfl rfl (by intro v hv; simp only [List.mem_cons, List.not_mem_nil, or_false] at hv; rcases hv with rfl | rfl | rfl <;> rfl) (Nat.le_of_ble_eq_true rfl) ?_
  show PW _ _ _ _ _ 0 [some (.ref 44), some (.int x), some (.int y), none] [] (SM M ++ (MM N ++ R)) 0 0
  refine PW.iload_n (i := 2) dX5_book_0 rfl rfl ?_
  refine PW.iconst (v := 0) dX5_book_1 (by decide) ?_
  refine PW.iconst (v := 3) dX5_book_2 (by decide) ?_
  refine PW.callS (k := kX5_book) (n := 3) (c5_in _ _ _) dX5_book_3 gX5_book_X5_in rfl hs_X5_in rfl ⟨by decide, by decide⟩ ⟨rfl, rfl⟩ (Nat.le_of_ble_eq_true rfl) ⟨by decide, by decide⟩ rfl (fun v m9 hp => ?_) (fun _ _ hx => hx.elim)
  obtain ⟨rfl, rfl⟩ := hp
  rw [hy]
  refine PW.if_ne (tgt := 13) dX5_book_6 (by decide) (fun _ => ?_) (fun h6 => absurd h6 (by decide))
  refine PW.iconst (v := 0) dX5_book_13 (by decide) ?_
  refine PW.istore_n (i := 3) dX5_book_14 rfl (by decide) rfl ?_
  refine PW.aload_n (i := 0) dX5_book_15 rfl rfl ?_
  refine PW.iload_n (i := 3) dX5_book_16 rfl rfl ?_
  refine PW.iload_n (i := 3) dX5_book_17 rfl rfl ?_
  refine PW.if_ne (tgt := 50) dX5_book_18 (by decide) (fun h18 => absurd h18 (by decide)) (fun _ => ?_)
  refine PW.iload_n (i := 1) dX5_book_21 rfl rfl ?_
  refine PW.iconst (v := 0) dX5_book_22 (by decide) ?_
  refine PW.aload_n (i := 0) dX5_book_23 rfl rfl ?_
  refine PW.getf FX5_book_97 dX5_book_24 sm_mod rfl ?_
  refine PW.iconst (v := 1) dX5_book_27 (by decide) ?_
  refine PW.isub dX5_book_28 ?_
  refine PW.callS (k := kX5_book) (n := 3) (c5_in _ _ _) dX5_book_29 gX5_book_X5_in rfl hs_X5_in rfl ⟨by decide, by decide⟩ ⟨rfl, rfl⟩ (Nat.le_of_ble_eq_true rfl) ⟨by decide, by decide⟩ rfl (fun v m9 hp => ?_) (fun _ _ hx => hx.elim)
  obtain ⟨rfl, rfl⟩ := hp
  refine PW.if_eq (tgt := 46) dX5_book_32 (by decide) (fun h32 => ?_) (fun h32 => ?_)
  · refine PW.iconst (v := 1) dX5_book_46 (by decide) ?_
    refine PW.goto (tgt := 51) dX5_book_47 (by decide) ?_
    refine PW.callV (k := kX5_book) (n := 2) (c5_throwing false true) dX5_book_51 gX5_book_X5_throwing rfl hd_X5_throwing rfl ⟨by decide, by decide⟩ ⟨rfl, rfl⟩ (Nat.le_of_ble_eq_true rfl) ⟨by decide, by decide⟩ sm_mod (by decide) rfl rfl (fun v m9 hp => ?_) (fun _ _ hx => hx.elim)
    obtain ⟨rfl, rfl⟩ := hp
    refine PW.if_eq (tgt := 59) dX5_book_54 (by decide) (fun h54 => absurd h54 (by decide)) (fun _ => ?_)
    refine PW.iconst (v := 0) dX5_book_57 (by decide) ?_
    exact PW.iret dX5_book_58 rfl ⟨rfl, rfl⟩ (by decide) (by decide)
  · refine PW.iload_n (i := 1) dX5_book_35 rfl rfl ?_
    refine PW.bipush (v := 60) dX5_book_36 (by decide) ?_
    refine PW.iadd dX5_book_38 ?_
    refine PW.aload_n (i := 0) dX5_book_39 rfl rfl ?_
    refine PW.getf FX5_book_97 dX5_book_40 sm_mod rfl ?_
    refine PW.icmp_ge (tgt := 50) dX5_book_43 (by decide) (fun h43 => ?_) (fun h43 => ?_)
    · exact absurd ⟨b2i_t h32, Int32.not_lt.mpr h43⟩ h2
    · refine PW.iconst (v := 1) dX5_book_46 (by decide) ?_
      refine PW.goto (tgt := 51) dX5_book_47 (by decide) ?_
      refine PW.callV (k := kX5_book) (n := 2) (c5_throwing false true) dX5_book_51 gX5_book_X5_throwing rfl hd_X5_throwing rfl ⟨by decide, by decide⟩ ⟨rfl, rfl⟩ (Nat.le_of_ble_eq_true rfl) ⟨by decide, by decide⟩ sm_mod (by decide) rfl rfl (fun v m9 hp => ?_) (fun _ _ hx => hx.elim)
      obtain ⟨rfl, rfl⟩ := hp
      refine PW.if_eq (tgt := 59) dX5_book_54 (by decide) (fun h54 => absurd h54 (by decide)) (fun _ => ?_)
      refine PW.iconst (v := 0) dX5_book_57 (by decide) ?_
      exact PW.iret dX5_book_58 rfl ⟨rfl, rfl⟩ (by decide) (by decide)
set_option maxRecDepth 100000 in
set_option maxHeartbeats 4000000 in
theorem c5_book_ok {M N : dM} {R : pM} {q p : Nat} (hq : q < 100000) (hp : p < 4) (hk : okB5 N (nI q)) (l9 : Launch) : pMet l9 yX5_book kX5_book false [.ref 44, .int (nI q), .int (nI p)] (SM M ++ (MM N ++ R)) (fun v m9 => v = some (.int (Z N 38 (q % 60 * 4 + p))) ∧ m9 = SM M ++ (MM (Z N) ++ R)) (fun _ _ => False) := by
  refine pMet.of (by decide) rfl rfl rfl (by intro v hv; simp only [List.mem_cons, List.not_mem_nil, or_false] at hv; rcases hv with rfl | rfl | rfl <;> rfl) (Nat.le_of_ble_eq_true rfl) ?_
  show PW _ _ _ _ _ 0 [some (.ref 44), some (.int (nI q)), some (.int (nI p)), none] [] (SM M ++ (MM N ++ R)) 0 0
  refine PW.iload_n (i := 2) dX5_book_0 rfl rfl ?_
  refine PW.iconst (v := 0) dX5_book_1 (by decide) ?_
  refine PW.iconst (v := 3) dX5_book_2 (by decide) ?_
  refine PW.callS (k := kX5_book) (n := 3) (c5_in _ _ _) dX5_book_3 gX5_book_X5_in rfl hs_X5_in rfl ⟨by decide, by decide⟩ ⟨rfl, rfl⟩ (Nat.le_of_ble_eq_true rfl) ⟨by decide, by decide⟩ rfl (fun v m9 hp => ?_) (fun _ _ hx => hx.elim)
  obtain ⟨rfl, rfl⟩ := hp
  rw [in3 hp]
  refine PW.if_ne (tgt := 13) dX5_book_6 (by decide) (fun _ => ?_) (fun h6 => absurd h6 (by decide))
  refine PW.iconst (v := 0) dX5_book_13 (by decide) ?_
  refine PW.istore_n (i := 3) dX5_book_14 rfl (by decide) rfl ?_
  refine PW.aload_n (i := 0) dX5_book_15 rfl rfl ?_
  refine PW.iload_n (i := 3) dX5_book_16 rfl rfl ?_
  refine PW.iload_n (i := 3) dX5_book_17 rfl rfl ?_
  refine PW.if_ne (tgt := 50) dX5_book_18 (by decide) (fun h18 => absurd h18 (by decide)) (fun _ => ?_)
  refine PW.iload_n (i := 1) dX5_book_21 rfl rfl ?_
  refine PW.iconst (v := 0) dX5_book_22 (by decide) ?_
  refine PW.aload_n (i := 0) dX5_book_23 rfl rfl ?_
  refine PW.getf FX5_book_97 dX5_book_24 sm_mod rfl ?_
  refine PW.iconst (v := 1) dX5_book_27 (by decide) ?_
  refine PW.isub dX5_book_28 ?_
  refine PW.callS (k := kX5_book) (n := 3) (c5_in _ _ _) dX5_book_29 gX5_book_X5_in rfl hs_X5_in rfl ⟨by decide, by decide⟩ ⟨rfl, rfl⟩ (Nat.le_of_ble_eq_true rfl) ⟨by decide, by decide⟩ rfl (fun v m9 hp => ?_) (fun _ _ hx => hx.elim)
  obtain ⟨rfl, rfl⟩ := hp
  rw [hk.1]
  refine PW.if_eq (tgt := 46) dX5_book_32 (by decide) (fun h32 => absurd h32 (by decide)) (fun _ => ?_)
  refine PW.iload_n (i := 1) dX5_book_35 rfl rfl ?_
  refine PW.bipush (v := 60) dX5_book_36 (by decide) ?_
  refine PW.iadd dX5_book_38 ?_
  refine PW.aload_n (i := 0) dX5_book_39 rfl rfl ?_
  refine PW.getf FX5_book_97 dX5_book_40 sm_mod rfl ?_
  refine PW.icmp_ge (tgt := 50) dX5_book_43 (by decide) (fun _ => ?_) (fun h43 => absurd (Int32.not_lt.mp hk.2) h43)
  refine PW.iconst (v := 0) dX5_book_50 (by decide) ?_
  refine PW.callV (k := kX5_book) (n := 2) (c5_throwing false false) dX5_book_51 gX5_book_X5_throwing rfl hd_X5_throwing rfl ⟨by decide, by decide⟩ ⟨rfl, rfl⟩ (Nat.le_of_ble_eq_true rfl) ⟨by decide, by decide⟩ sm_mod (by decide) rfl rfl (fun v m9 hp => ?_) (fun _ _ hx => hx.elim)
  obtain ⟨rfl, rfl⟩ := hp
  rw [show up2 N 39 7 (thr false false) = Z N from rfl]
  refine PW.if_eq (tgt := 59) dX5_book_54 (by decide) (fun _ => ?_) (fun h54 => absurd (by decide) h54)
  refine PW.aload_n (i := 0) dX5_book_59 rfl rfl ?_
  refine PW.getf FX5_book_68 dX5_book_60 sm_mod rfl ?_
  refine PW.iconst (v := 4) dX5_book_63 (by decide) ?_
  refine PW.iload_n (i := 1) dX5_book_64 rfl rfl ?_
  refine PW.bipush (v := 60) dX5_book_65 (by decide) ?_
  refine PW.irem dX5_book_67 (by decide) ?_
  rw [rem60 (by omega)]
  refine PW.imul dX5_book_68 ?_
  rw [k4]
  refine PW.iload_n (i := 2) dX5_book_69 rfl rfl ?_
  refine PW.iadd dX5_book_70 ?_
  refine PW.iald dX5_book_71 ma_entry (nI_add _ _) (by omega) (mg_entry (by omega)) ?_
  exact PW.iret dX5_book_72 rfl ⟨rfl, rfl⟩ (by decide) (by decide)
