def RS (N : dM) : Prop := ∀ l, l < 24 → N l 1 = 4 → ∃ o t, o < 24 ∧ t < 8 ∧ N l 3 = nI o ∧ N l 4 = nI t
theorem hangM_r {N : dM} {c l k : Nat} (hc : c < 24) (hl : l < 24) (hk : k < 24) (hn : k ≠ l) : g_hang N c l k = N k := by
  funext j
  unfold g_hang
  rw [EX.bec k j hn, mark_row hc hl (Or.inl hk)]
theorem RS.hang {N : dM} {c l : Nat} (h : RS N) (hc : c < 24) (hl : l < 24) : RS (g_hang N c l) := by
  intro k hk k4
  by_cases kl : k = l
  · subst kl
    unfold g_hang at k4
    rw [becI_s hl] at k4
    exact absurd (show (0 : Int32) = 4 from k4) (by decide)
  · rw [hangM_r hc hl hk kl] at k4 ⊢; exact h k hk k4
theorem RS.of {x : Nat} {Q N : dM} (h : Rx x Q N) (hS : Sf Q) : RS N := fun l hl h4 => by
  by_cases e : l = x
  · subst e; exact absurd h4 (h.2.1 hl).2.2.2.2.2.2.2.1
  · obtain ⟨hL, -⟩ := h.1 l hl e
    rw [← hL.1] at h4
    rw [← hL.2.1, ← hL.2.2.1]
    exact (hS.1 l hl).1 (Or.inl h4)
def GO (N : dM) (g : Nat) : Prop := N (28 + g) 1 = nI (grN N g) ∧ grN N g ≤ 6 ∧ (∀ i, i < grN N g → N (32 + g) i = nI (mb N g i) ∧ mb N g i < 24) ∧ (N (28 + g) 2 = 1 → N (28 + g) 3 + 1 = nI (grS N g) ∧ grS N g ≤ 6)
theorem GO.to {N N' : dM} {g : Nat} (h : GO N g) (e1 : N' (28 + g) = N (28 + g)) (e2 : N' (32 + g) = N (32 + g)) : GO N' g := by
  unfold GO grN grS mb at *
  rw [e1, e2]
  exact h
theorem GO.of {x g : Nat} {Q N : dM} (h : Rx x Q N) (hS : Sf Q) (hg : g < 4) : GO N g := by
  obtain ⟨a1, a2, a3, a4, a5⟩ := hS.2.2 g hg
  have e1 : N (28 + g) 1 = Q (28 + g) 1 := (h.2.2.1 (28 + g) 1 (by omega) (by omega) (by omega)).symm
  have e2 : N (28 + g) 2 = Q (28 + g) 2 := (h.2.2.1 (28 + g) 2 (by omega) (by omega) (by omega)).symm
  have e3 : N (32 + g) = Q (32 + g) := funext (fun j => (h.2.2.1 (32 + g) j (by omega) (by omega) (by omega)).symm)
  unfold GO grN grS mb at *
  rw [e1, e2, e3]
  refine ⟨a1, a2, a3, fun q => ?_⟩
  rw [← h.2.2.2.1 g hg (by rw [q]; decide)]
  exact ⟨a4, a5⟩
def GN (N : dM) : Prop := ∃ Q, Rx 24 Q N ∧ Iv 24 Q ∧ Sf Q
set_option maxRecDepth 100000 in
set_option maxHeartbeats 4000000 in
theorem hu_loop {M : dM} {R : pM} {n0 c : Nat} {b : Int32} {fin : dM} (hc : c < 24) : ∀ (n s : Nat) (N : dM), s + n = 24 → RS N → huL c b n s N = fin → PW kX5_hush false n0 (fun v m9 => v = none ∧ m9 = SM M ++ (MM fin ++ R)) (fun _ _ => False) 2 [some (.ref 44), some (.int (nI c)), some (.int b), some (.int (nI s))] [] (SM M ++ (MM N ++ R)) 0 0 := by
  intro n
  induction n with
  | zero =>
    intro s N hs hR hr
    refine PW.iload_n (i := 3) dX5_hush_2 rfl rfl ?_
    refine PW.bipush (v := 24) dX5_hush_3 (by decide) ?_
    refine PW.icmp_ge (tgt := 58) dX5_hush_5 (by decide) (fun _ => ?_) (fun h5 => absurd (nI_le (a := 24) (b := s) (by omega) (by omega)) h5)
    exact PW.vret dX5_hush_58 rfl ⟨rfl, by rw [← hr]; rfl⟩ (by decide) (by decide)
  | succ n ih =>
    intro s N hs hR hr
    refine PW.iload_n (i := 3) dX5_hush_2 rfl rfl ?_
    refine PW.bipush (v := 24) dX5_hush_3 (by decide) ?_
    refine PW.icmp_ge (tgt := 58) dX5_hush_5 (by decide) (fun h5 => absurd h5 (nI_ge (a := s) (b := 24) (by omega) (by decide))) (fun _ => ?_)
    have hs9 : s < 24 := by omega
    refine PW.aload_n (i := 0) dX5_hush_8 rfl rfl ?_
    refine PW.getf FX5_hush_7 dX5_hush_9 sm_mod rfl ?_
    refine PW.iload_n (i := 3) dX5_hush_12 rfl rfl ?_
    refine PW.iald dX5_hush_13 ma_state rfl (Nat.lt_trans hs9 (by decide)) (mg_state hs9) ?_
    refine PW.iconst (v := 4) dX5_hush_14 (by decide) ?_
    refine PW.icmp_ne (tgt := 52) dX5_hush_15 (by decide) (fun h15 => ?_) (fun h15 => ?_)
    · refine PW.iinc (v := nI (s + 1)) dX5_hush_52 rfl (nI_1 s) (by decide) rfl ?_
      refine PW.goto (tgt := 2) dX5_hush_55 (by decide) ?_
      exact ih (s + 1) N (by omega) hR (by rw [← hr, huL, if_neg (by simp [h15])])
    · refine PW.aload_n (i := 0) dX5_hush_18 rfl rfl ?_
      refine PW.getf FX5_hush_22 dX5_hush_19 sm_mod rfl ?_
      refine PW.iload_n (i := 3) dX5_hush_22 rfl rfl ?_
      refine PW.iald dX5_hush_23 ma_other rfl (Nat.lt_trans hs9 (by decide)) (mg_other hs9) ?_
      refine PW.iload_n (i := 1) dX5_hush_24 rfl rfl ?_
      refine PW.icmp_ne (tgt := 52) dX5_hush_25 (by decide) (fun h25 => ?_) (fun h25 => ?_)
      · refine PW.iinc (v := nI (s + 1)) dX5_hush_52 rfl (nI_1 s) (by decide) rfl ?_
        refine PW.goto (tgt := 2) dX5_hush_55 (by decide) ?_
        exact ih (s + 1) N (by omega) hR (by rw [← hr, huL, if_neg (by simp [h15, h25])])
      · refine PW.iload_n (i := 3) dX5_hush_28 rfl rfl ?_
        refine PW.iload_n (i := 2) dX5_hush_29 rfl rfl ?_
        refine PW.icmp_eq (tgt := 52) dX5_hush_30 (by decide) (fun h30 => ?_) (fun h30 => ?_)
        · refine PW.iinc (v := nI (s + 1)) dX5_hush_52 rfl (nI_1 s) (by decide) rfl ?_
          refine PW.goto (tgt := 2) dX5_hush_55 (by decide) ?_
          exact ih (s + 1) N (by omega) hR (by rw [← hr, huL, if_neg (by simp [h15, h25, h30])])
        · obtain ⟨o, t, ho, ht, e3, e4⟩ := hR s hs9 h15
          refine PW.aload_n (i := 0) dX5_hush_33 rfl rfl ?_
          refine PW.iload_n (i := 1) dX5_hush_34 rfl rfl ?_
          refine PW.iload_n (i := 3) dX5_hush_35 rfl rfl ?_
          refine PW.aload_n (i := 0) dX5_hush_36 rfl rfl ?_
          refine PW.getf FX5_hush_25 dX5_hush_37 sm_mod rfl ?_
          refine PW.iload_n (i := 3) dX5_hush_40 rfl rfl ?_
          refine PW.iald dX5_hush_41 ma_slotOf rfl (Nat.lt_trans hs9 (by decide)) (mg_slotOf hs9) ?_
          rw [e4]
          refine PW.iconst (v := (-1)) dX5_hush_42 (by decide) ?_
          refine PW.callV (k := kX5_hush) (n := 4) (c5_use hc hs9 ht _) dX5_hush_43 gX5_hush_X5_use rfl hd_X5_use rfl ⟨by decide, by decide⟩ ⟨rfl, rfl⟩ (Nat.le_of_ble_eq_true rfl) ⟨by decide, by decide⟩ sm_mod (by decide) rfl rfl (fun v m9 hp => ?_) (fun _ _ hx => hx.elim)
          obtain ⟨rfl, rfl⟩ := hp
          refine PW.aload_n (i := 0) dX5_hush_46 rfl rfl ?_
          refine PW.iload_n (i := 3) dX5_hush_47 rfl rfl ?_
          refine PW.iconst (v := 0) dX5_hush_48 (by decide) ?_
          refine PW.callV (k := kX5_hush) (n := 2) (c5_become hs9 _) dX5_hush_49 gX5_hush_X5_become rfl hd_X5_become rfl ⟨by decide, by decide⟩ ⟨rfl, rfl⟩ (Nat.le_of_ble_eq_true rfl) ⟨by decide, by decide⟩ sm_mod (by decide) rfl rfl (fun v m9 hp => ?_) (fun _ _ hx => hx.elim)
          obtain ⟨rfl, rfl⟩ := hp
          rw [show g_bec (f_mark N c s t (-1)) s 0 = g_hang N c s by rw [g_hang, e4, nI_clamp (by omega)]]
          refine PW.iinc (v := nI (s + 1)) dX5_hush_52 rfl (nI_1 s) (by decide) rfl ?_
          refine PW.goto (tgt := 2) dX5_hush_55 (by decide) ?_
          exact ih (s + 1) (g_hang N c s) (by omega) (hR.hang hc hs9) (by rw [← hr, huL, if_pos ⟨h15, h25, h30⟩])
set_option maxRecDepth 100000 in
set_option maxHeartbeats 4000000 in
theorem c5_hush {M N : dM} {R : pM} {c : Nat} (hc : c < 24) (b : Int32) (hR : RS N) (l9 : Launch) : pMet l9 yX5_hush kX5_hush false [.ref 44, .int (nI c), .int b] (SM M ++ (MM N ++ R)) (fun v m9 => v = none ∧ m9 = SM M ++ (MM (huL c b 24 0 N) ++ R)) (fun _ _ => False) := by
  refine pMet.of (by decide) rfl rfl rfl (by intro v hv; simp only [List.mem_cons, List.not_mem_nil, or_false] at hv; rcases hv with rfl | rfl | rfl <;> rfl) (Nat.le_of_ble_eq_true rfl) ?_
  show PW _ _ _ _ _ 0 [some (.ref 44), some (.int (nI c)), some (.int b), none] [] (SM M ++ (MM N ++ R)) 0 0
  refine PW.iconst (v := 0) dX5_hush_0 (by decide) ?_
  refine PW.istore_n (i := 3) dX5_hush_1 rfl (by decide) rfl ?_
  exact hu_loop hc 24 0 N rfl hR rfl
theorem units_38 {X : dM} {k j : Nat} {v : Int32} (hk : k < 24) : g_units (up2 X 38 j v) k = g_units X k := by
  unfold g_units
  rw [up2_r (by decide), up2_r (by omega)]
theorem k4 (a : Nat) : 4 * nI a = nI (a * 4) := by rw [show (4 : Int32) = nI 4 from rfl, pk_mul, Nat.mul_comm]
set_option maxRecDepth 100000 in
set_option maxHeartbeats 4000000 in
theorem c5_finish {M N : dM} {R : pM} {l o t w : Nat} (hl : l < 24) (ho : o < 24) (ht : t < 8) (e3 : N l 3 = nI o) (e4 : N l 4 = nI t) (ew : N 37 1 = nI w) (hw : w < 100000) (l9 : Launch) : pMet l9 yX5_finish kX5_finish false [.ref 44, .int (nI l)] (SM M ++ (MM N ++ R)) (fun v m9 => v = none ∧ m9 = SM M ++ (MM (g_fin N l) ++ R)) (fun _ _ => False) := by
  refine pMet.of (by decide) rfl rfl rfl (by intro v hv; simp only [List.mem_cons, List.not_mem_nil, or_false] at hv; rcases hv with rfl | rfl <;> rfl) (Nat.le_of_ble_eq_true rfl) ?_
  show PW _ _ _ _ _ 0 [some (.ref 44), some (.int (nI l)), none, none, none] [] (SM M ++ (MM N ++ R)) 0 0
  refine PW.aload_n (i := 0) dX5_finish_0 rfl rfl ?_
  refine PW.getf FX5_finish_22 dX5_finish_1 sm_mod rfl ?_
  refine PW.iload_n (i := 1) dX5_finish_4 rfl rfl ?_
  refine PW.iald dX5_finish_5 ma_other rfl (Nat.lt_trans hl (by decide)) (mg_other hl) ?_
  rw [e3]
  refine PW.istore_n (i := 2) dX5_finish_6 rfl (by decide) rfl ?_
  refine PW.aload_n (i := 0) dX5_finish_7 rfl rfl ?_
  refine PW.getf FX5_finish_41 dX5_finish_8 sm_mod rfl ?_
  refine PW.iload_n (i := 1) dX5_finish_11 rfl rfl ?_
  refine PW.zald dX5_finish_12 ma_pays rfl (Nat.lt_trans hl (by decide)) (mg_pays hl) ?_
  refine PW.if_eq (tgt := 20) dX5_finish_13 (by decide) (fun h13 => ?_) (fun h13 => ?_)
  · refine PW.iload_n (i := 2) dX5_finish_20 rfl rfl ?_
    refine PW.istore_n (i := 3) dX5_finish_21 rfl (by decide) rfl ?_
    refine PW.iconst (v := 4) dX5_finish_22 (by decide) ?_
    refine PW.aload_n (i := 0) dX5_finish_23 rfl rfl ?_
    refine PW.getf FX5_finish_97 dX5_finish_24 sm_mod rfl ?_
    refine PW.bipush (v := 60) dX5_finish_27 (by decide) ?_
    refine PW.irem dX5_finish_29 (by decide) ?_
    rw [ew, rem60 (by omega)]
    refine PW.imul dX5_finish_30 ?_
    rw [k4]
    refine PW.istore dX5_finish_31 (by decide) rfl ?_
    refine PW.aload_n (i := 0) dX5_finish_33 rfl rfl ?_
    refine PW.getf FX5_finish_68 dX5_finish_34 sm_mod rfl ?_
    refine PW.iload dX5_finish_37 rfl ?_
    refine PW.iload_n (i := 3) dX5_finish_39 rfl rfl ?_
    refine PW.iast dX5_finish_40 ma_entry rfl (by omega) (by rw [maF_len]; show _ < 240; omega) (pm_entry (by omega)) ?_
    refine PW.aload_n (i := 0) dX5_finish_41 rfl rfl ?_
    refine PW.getf FX5_finish_68 dX5_finish_42 sm_mod rfl ?_
    refine PW.iload dX5_finish_45 rfl ?_
    refine PW.iconst (v := 1) dX5_finish_47 (by decide) ?_
    refine PW.iadd dX5_finish_48 ?_
    refine PW.aload_n (i := 0) dX5_finish_49 rfl rfl ?_
    refine PW.getf FX5_finish_41 dX5_finish_50 sm_mod rfl ?_
    refine PW.iload_n (i := 1) dX5_finish_53 rfl rfl ?_
    refine PW.zald dX5_finish_54 ma_pays rfl (Nat.lt_trans hl (by decide)) (mg_pays hl) ?_
    refine PW.if_eq (tgt := 62) dX5_finish_55 (by decide) (fun _ => ?_) (fun h55 => absurd (by rw [up2_r (by omega)]; exact h13) h55)
    refine PW.iload_n (i := 1) dX5_finish_62 rfl rfl ?_
    refine PW.iast dX5_finish_63 ma_entry (nI_1 _) (by omega) (by rw [maF_len]; show _ < 240; omega) (pm_entry (by omega)) ?_
    refine PW.aload_n (i := 0) dX5_finish_64 rfl rfl ?_
    refine PW.getf FX5_finish_68 dX5_finish_65 sm_mod rfl ?_
    refine PW.iload dX5_finish_68 rfl ?_
    refine PW.iconst (v := 2) dX5_finish_70 (by decide) ?_
    refine PW.iadd dX5_finish_71 ?_
    refine PW.aload_n (i := 0) dX5_finish_72 rfl rfl ?_
    refine PW.getf FX5_finish_44 dX5_finish_73 sm_mod rfl ?_
    refine PW.iload_n (i := 3) dX5_finish_76 rfl rfl ?_
    refine PW.iald dX5_finish_77 ma_begun rfl (Nat.lt_trans ho (by decide)) (mg_begun ho) ?_
    rw [up2_r (by omega), up2_r (by omega)]
    refine PW.iast dX5_finish_78 ma_entry (nI_add _ 2) (by omega) (by rw [maF_len]; show _ < 240; omega) (pm_entry (by omega)) ?_
    refine PW.aload_n (i := 0) dX5_finish_79 rfl rfl ?_
    refine PW.getf FX5_finish_68 dX5_finish_80 sm_mod rfl ?_
    refine PW.iload dX5_finish_83 rfl ?_
    refine PW.iconst (v := 3) dX5_finish_85 (by decide) ?_
    refine PW.iadd dX5_finish_86 ?_
    refine PW.aload_n (i := 0) dX5_finish_87 rfl rfl ?_
    refine PW.iload_n (i := 3) dX5_finish_88 rfl rfl ?_
    refine PW.callV (k := kX5_finish) (n := 1) (c5_unitsOf ho) dX5_finish_89 gX5_finish_X5_unitsOf rfl hd_X5_unitsOf rfl ⟨by decide, by decide⟩ ⟨rfl, rfl⟩ (Nat.le_of_ble_eq_true rfl) ⟨by decide, by decide⟩ sm_mod (by decide) rfl rfl (fun v m9 hp => ?_) (fun _ _ hx => hx.elim)
    obtain ⟨rfl, rfl⟩ := hp
    rw [units_38 ho, units_38 ho, units_38 ho]
    refine PW.iast dX5_finish_92 ma_entry (nI_add _ 3) (by omega) (by rw [maF_len]; show _ < 240; omega) (pm_entry (by omega)) ?_
    refine PW.aload_n (i := 0) dX5_finish_93 rfl rfl ?_
    refine PW.dup dX5_finish_94 rfl ?_
    refine PW.getf FX5_finish_97 dX5_finish_95 sm_mod rfl ?_
    refine PW.iconst (v := 1) dX5_finish_98 (by decide) ?_
    refine PW.iadd dX5_finish_99 ?_
    rw [up2_r (by omega), up2_r (by omega), up2_r (by omega), up2_r (by omega), ew, nI_1]
    refine PW.putf FX5_finish_97 (Fw_5_23 _) dX5_finish_100 sm_mod (Nat.le_of_ble_eq_true rfl) (fun _ => rfl) (fun _ => rfl) pm_entries ?_
    refine PW.aload_n (i := 0) dX5_finish_103 rfl rfl ?_
    refine PW.getf FX5_finish_38 dX5_finish_104 sm_mod rfl ?_
    refine PW.iload_n (i := 3) dX5_finish_107 rfl rfl ?_
    refine PW.dup2 dX5_finish_108 rfl rfl ?_
    refine PW.iald dX5_finish_109 ma_paid rfl (Nat.lt_trans ho (by decide)) (mg_paid ho) ?_
    refine PW.aload_n (i := 0) dX5_finish_110 rfl rfl ?_
    refine PW.iload_n (i := 3) dX5_finish_111 rfl rfl ?_
    refine PW.callV (k := kX5_finish) (n := 1) (c5_unitsOf ho) dX5_finish_112 gX5_finish_X5_unitsOf rfl hd_X5_unitsOf rfl ⟨by decide, by decide⟩ ⟨rfl, rfl⟩ (Nat.le_of_ble_eq_true rfl) ⟨by decide, by decide⟩ sm_mod (by decide) rfl rfl (fun v m9 hp => ?_) (fun _ _ hx => hx.elim)
    obtain ⟨rfl, rfl⟩ := hp
    refine PW.iadd dX5_finish_115 ?_
    refine PW.iast dX5_finish_116 ma_paid rfl (Nat.lt_trans ho (by decide)) (by rw [maF_len]; exact ho)  (pm_paid ho) ?_
    refine PW.aload_n (i := 0) dX5_finish_117 rfl rfl ?_
    refine PW.iload_n (i := 1) dX5_finish_118 rfl rfl ?_
    refine PW.iload_n (i := 2) dX5_finish_119 rfl rfl ?_
    refine PW.aload_n (i := 0) dX5_finish_120 rfl rfl ?_
    refine PW.getf FX5_finish_25 dX5_finish_121 sm_mod rfl ?_
    refine PW.iload_n (i := 1) dX5_finish_124 rfl rfl ?_
    refine PW.iald dX5_finish_125 ma_slotOf rfl (Nat.lt_trans hl (by decide)) (mg_slotOf hl) ?_
    rw [up2_j (by decide), up2_r (by omega), up2_r (by omega), up2_r (by omega), up2_r (by omega), up2_r (by omega), e4]
    refine PW.iconst (v := (-1)) dX5_finish_126 (by decide) ?_
    refine PW.callV (k := kX5_finish) (n := 4) (c5_use hl ho ht _) dX5_finish_127 gX5_finish_X5_use rfl hd_X5_use rfl ⟨by decide, by decide⟩ ⟨rfl, rfl⟩ (Nat.le_of_ble_eq_true rfl) ⟨by decide, by decide⟩ sm_mod (by decide) rfl rfl (fun v m9 hp => ?_) (fun _ _ hx => hx.elim)
    obtain ⟨rfl, rfl⟩ := hp
    refine PW.aload_n (i := 0) dX5_finish_130 rfl rfl ?_
    refine PW.getf FX5_finish_41 dX5_finish_131 sm_mod rfl ?_
    refine PW.iload_n (i := 1) dX5_finish_134 rfl rfl ?_
    refine PW.iconst (v := 0) dX5_finish_135 (by decide) ?_
    refine PW.zast dX5_finish_136 ma_pays rfl (Nat.lt_trans hl (by decide)) (by rw [maF_len]; exact hl) (by decide) (pm_pays hl) ?_
    refine PW.aload_n (i := 0) dX5_finish_137 rfl rfl ?_
    refine PW.getf FX5_finish_41 dX5_finish_138 sm_mod rfl ?_
    refine PW.iload_n (i := 2) dX5_finish_141 rfl rfl ?_
    refine PW.iconst (v := 0) dX5_finish_142 (by decide) ?_
    refine PW.zast dX5_finish_143 ma_pays rfl (Nat.lt_trans ho (by decide)) (by rw [maF_len]; exact ho) (by decide) (pm_pays ho) ?_
    refine PW.aload_n (i := 0) dX5_finish_144 rfl rfl ?_
    refine PW.getf FX5_finish_22 dX5_finish_145 sm_mod rfl ?_
    refine PW.iload_n (i := 1) dX5_finish_148 rfl rfl ?_
    refine PW.iconst (v := (-1)) dX5_finish_149 (by decide) ?_
    refine PW.iast dX5_finish_150 ma_other rfl (Nat.lt_trans hl (by decide)) (by rw [maF_len]; exact hl)  (pm_other hl) ?_
    refine PW.aload_n (i := 0) dX5_finish_151 rfl rfl ?_
    refine PW.getf FX5_finish_25 dX5_finish_152 sm_mod rfl ?_
    refine PW.iload_n (i := 1) dX5_finish_155 rfl rfl ?_
    refine PW.iconst (v := (-1)) dX5_finish_156 (by decide) ?_
    refine PW.iast dX5_finish_157 ma_slotOf rfl (Nat.lt_trans hl (by decide)) (by rw [maF_len]; exact hl)  (pm_slotOf hl) ?_
    refine PW.aload_n (i := 0) dX5_finish_158 rfl rfl ?_
    refine PW.getf FX5_finish_22 dX5_finish_159 sm_mod rfl ?_
    refine PW.iload_n (i := 2) dX5_finish_162 rfl rfl ?_
    refine PW.iconst (v := (-1)) dX5_finish_163 (by decide) ?_
    refine PW.iast dX5_finish_164 ma_other rfl (Nat.lt_trans ho (by decide)) (by rw [maF_len]; exact ho)  (pm_other ho) ?_
    refine PW.aload_n (i := 0) dX5_finish_165 rfl rfl ?_
    refine PW.getf FX5_finish_25 dX5_finish_166 sm_mod rfl ?_
    refine PW.iload_n (i := 2) dX5_finish_169 rfl rfl ?_
    refine PW.iconst (v := (-1)) dX5_finish_170 (by decide) ?_
    refine PW.iast dX5_finish_171 ma_slotOf rfl (Nat.lt_trans ho (by decide)) (by rw [maF_len]; exact ho)  (pm_slotOf ho) ?_
    exact PW.vret dX5_finish_172 rfl ⟨rfl, by rw [g_fin, payer, oth, slt, wr, e3, e4, ew, nI_clamp (show o < 2 ^ 31 by omega), nI_clamp (show t < 2 ^ 31 by omega), nI_clamp (show w < 2 ^ 31 by omega)]; first | (rw [if_pos h13, if_pos h13]; rfl) | (rw [if_neg h13, if_neg h13]; rfl)⟩ (by decide) (by decide)
  · refine PW.iload_n (i := 1) dX5_finish_16 rfl rfl ?_
    refine PW.goto (tgt := 21) dX5_finish_17 (by decide) ?_
    refine PW.istore_n (i := 3) dX5_finish_21 rfl (by decide) rfl ?_
    refine PW.iconst (v := 4) dX5_finish_22 (by decide) ?_
    refine PW.aload_n (i := 0) dX5_finish_23 rfl rfl ?_
    refine PW.getf FX5_finish_97 dX5_finish_24 sm_mod rfl ?_
    refine PW.bipush (v := 60) dX5_finish_27 (by decide) ?_
    refine PW.irem dX5_finish_29 (by decide) ?_
    rw [ew, rem60 (by omega)]
    refine PW.imul dX5_finish_30 ?_
    rw [k4]
    refine PW.istore dX5_finish_31 (by decide) rfl ?_
    refine PW.aload_n (i := 0) dX5_finish_33 rfl rfl ?_
    refine PW.getf FX5_finish_68 dX5_finish_34 sm_mod rfl ?_
    refine PW.iload dX5_finish_37 rfl ?_
    refine PW.iload_n (i := 3) dX5_finish_39 rfl rfl ?_
    refine PW.iast dX5_finish_40 ma_entry rfl (by omega) (by rw [maF_len]; show _ < 240; omega) (pm_entry (by omega)) ?_
    refine PW.aload_n (i := 0) dX5_finish_41 rfl rfl ?_
    refine PW.getf FX5_finish_68 dX5_finish_42 sm_mod rfl ?_
    refine PW.iload dX5_finish_45 rfl ?_
    refine PW.iconst (v := 1) dX5_finish_47 (by decide) ?_
    refine PW.iadd dX5_finish_48 ?_
    refine PW.aload_n (i := 0) dX5_finish_49 rfl rfl ?_
    refine PW.getf FX5_finish_41 dX5_finish_50 sm_mod rfl ?_
    refine PW.iload_n (i := 1) dX5_finish_53 rfl rfl ?_
    refine PW.zald dX5_finish_54 ma_pays rfl (Nat.lt_trans hl (by decide)) (mg_pays hl) ?_
    refine PW.if_eq (tgt := 62) dX5_finish_55 (by decide) (fun h55 => absurd h55 (by rw [up2_r (by omega)]; exact h13)) (fun _ => ?_)
    refine PW.iload_n (i := 2) dX5_finish_58 rfl rfl ?_
    refine PW.goto (tgt := 63) dX5_finish_59 (by decide) ?_
    refine PW.iast dX5_finish_63 ma_entry (nI_1 _) (by omega) (by rw [maF_len]; show _ < 240; omega) (pm_entry (by omega)) ?_
    refine PW.aload_n (i := 0) dX5_finish_64 rfl rfl ?_
    refine PW.getf FX5_finish_68 dX5_finish_65 sm_mod rfl ?_
    refine PW.iload dX5_finish_68 rfl ?_
    refine PW.iconst (v := 2) dX5_finish_70 (by decide) ?_
    refine PW.iadd dX5_finish_71 ?_
    refine PW.aload_n (i := 0) dX5_finish_72 rfl rfl ?_
    refine PW.getf FX5_finish_44 dX5_finish_73 sm_mod rfl ?_
    refine PW.iload_n (i := 3) dX5_finish_76 rfl rfl ?_
    refine PW.iald dX5_finish_77 ma_begun rfl (Nat.lt_trans hl (by decide)) (mg_begun hl) ?_
    rw [up2_r (by omega), up2_r (by omega)]
    refine PW.iast dX5_finish_78 ma_entry (nI_add _ 2) (by omega) (by rw [maF_len]; show _ < 240; omega) (pm_entry (by omega)) ?_
    refine PW.aload_n (i := 0) dX5_finish_79 rfl rfl ?_
    refine PW.getf FX5_finish_68 dX5_finish_80 sm_mod rfl ?_
    refine PW.iload dX5_finish_83 rfl ?_
    refine PW.iconst (v := 3) dX5_finish_85 (by decide) ?_
    refine PW.iadd dX5_finish_86 ?_
    refine PW.aload_n (i := 0) dX5_finish_87 rfl rfl ?_
    refine PW.iload_n (i := 3) dX5_finish_88 rfl rfl ?_
    refine PW.callV (k := kX5_finish) (n := 1) (c5_unitsOf hl) dX5_finish_89 gX5_finish_X5_unitsOf rfl hd_X5_unitsOf rfl ⟨by decide, by decide⟩ ⟨rfl, rfl⟩ (Nat.le_of_ble_eq_true rfl) ⟨by decide, by decide⟩ sm_mod (by decide) rfl rfl (fun v m9 hp => ?_) (fun _ _ hx => hx.elim)
    obtain ⟨rfl, rfl⟩ := hp
    rw [units_38 hl, units_38 hl, units_38 hl]
    refine PW.iast dX5_finish_92 ma_entry (nI_add _ 3) (by omega) (by rw [maF_len]; show _ < 240; omega) (pm_entry (by omega)) ?_
    refine PW.aload_n (i := 0) dX5_finish_93 rfl rfl ?_
    refine PW.dup dX5_finish_94 rfl ?_
    refine PW.getf FX5_finish_97 dX5_finish_95 sm_mod rfl ?_
    refine PW.iconst (v := 1) dX5_finish_98 (by decide) ?_
    refine PW.iadd dX5_finish_99 ?_
    rw [up2_r (by omega), up2_r (by omega), up2_r (by omega), up2_r (by omega), ew, nI_1]
    refine PW.putf FX5_finish_97 (Fw_5_23 _) dX5_finish_100 sm_mod (Nat.le_of_ble_eq_true rfl) (fun _ => rfl) (fun _ => rfl) pm_entries ?_
    refine PW.aload_n (i := 0) dX5_finish_103 rfl rfl ?_
    refine PW.getf FX5_finish_38 dX5_finish_104 sm_mod rfl ?_
    refine PW.iload_n (i := 3) dX5_finish_107 rfl rfl ?_
    refine PW.dup2 dX5_finish_108 rfl rfl ?_
    refine PW.iald dX5_finish_109 ma_paid rfl (Nat.lt_trans hl (by decide)) (mg_paid hl) ?_
    refine PW.aload_n (i := 0) dX5_finish_110 rfl rfl ?_
    refine PW.iload_n (i := 3) dX5_finish_111 rfl rfl ?_
    refine PW.callV (k := kX5_finish) (n := 1) (c5_unitsOf hl) dX5_finish_112 gX5_finish_X5_unitsOf rfl hd_X5_unitsOf rfl ⟨by decide, by decide⟩ ⟨rfl, rfl⟩ (Nat.le_of_ble_eq_true rfl) ⟨by decide, by decide⟩ sm_mod (by decide) rfl rfl (fun v m9 hp => ?_) (fun _ _ hx => hx.elim)
    obtain ⟨rfl, rfl⟩ := hp
    refine PW.iadd dX5_finish_115 ?_
    refine PW.iast dX5_finish_116 ma_paid rfl (Nat.lt_trans hl (by decide)) (by rw [maF_len]; exact hl)  (pm_paid hl) ?_
    refine PW.aload_n (i := 0) dX5_finish_117 rfl rfl ?_
    refine PW.iload_n (i := 1) dX5_finish_118 rfl rfl ?_
    refine PW.iload_n (i := 2) dX5_finish_119 rfl rfl ?_
    refine PW.aload_n (i := 0) dX5_finish_120 rfl rfl ?_
    refine PW.getf FX5_finish_25 dX5_finish_121 sm_mod rfl ?_
    refine PW.iload_n (i := 1) dX5_finish_124 rfl rfl ?_
    refine PW.iald dX5_finish_125 ma_slotOf rfl (Nat.lt_trans hl (by decide)) (mg_slotOf hl) ?_
    rw [up2_j (by decide), up2_r (by omega), up2_r (by omega), up2_r (by omega), up2_r (by omega), up2_r (by omega), e4]
    refine PW.iconst (v := (-1)) dX5_finish_126 (by decide) ?_
    refine PW.callV (k := kX5_finish) (n := 4) (c5_use hl ho ht _) dX5_finish_127 gX5_finish_X5_use rfl hd_X5_use rfl ⟨by decide, by decide⟩ ⟨rfl, rfl⟩ (Nat.le_of_ble_eq_true rfl) ⟨by decide, by decide⟩ sm_mod (by decide) rfl rfl (fun v m9 hp => ?_) (fun _ _ hx => hx.elim)
    obtain ⟨rfl, rfl⟩ := hp
    refine PW.aload_n (i := 0) dX5_finish_130 rfl rfl ?_
    refine PW.getf FX5_finish_41 dX5_finish_131 sm_mod rfl ?_
    refine PW.iload_n (i := 1) dX5_finish_134 rfl rfl ?_
    refine PW.iconst (v := 0) dX5_finish_135 (by decide) ?_
    refine PW.zast dX5_finish_136 ma_pays rfl (Nat.lt_trans hl (by decide)) (by rw [maF_len]; exact hl) (by decide) (pm_pays hl) ?_
    refine PW.aload_n (i := 0) dX5_finish_137 rfl rfl ?_
    refine PW.getf FX5_finish_41 dX5_finish_138 sm_mod rfl ?_
    refine PW.iload_n (i := 2) dX5_finish_141 rfl rfl ?_
    refine PW.iconst (v := 0) dX5_finish_142 (by decide) ?_
    refine PW.zast dX5_finish_143 ma_pays rfl (Nat.lt_trans ho (by decide)) (by rw [maF_len]; exact ho) (by decide) (pm_pays ho) ?_
    refine PW.aload_n (i := 0) dX5_finish_144 rfl rfl ?_
    refine PW.getf FX5_finish_22 dX5_finish_145 sm_mod rfl ?_
    refine PW.iload_n (i := 1) dX5_finish_148 rfl rfl ?_
    refine PW.iconst (v := (-1)) dX5_finish_149 (by decide) ?_
    refine PW.iast dX5_finish_150 ma_other rfl (Nat.lt_trans hl (by decide)) (by rw [maF_len]; exact hl)  (pm_other hl) ?_
    refine PW.aload_n (i := 0) dX5_finish_151 rfl rfl ?_
    refine PW.getf FX5_finish_25 dX5_finish_152 sm_mod rfl ?_
    refine PW.iload_n (i := 1) dX5_finish_155 rfl rfl ?_
    refine PW.iconst (v := (-1)) dX5_finish_156 (by decide) ?_
    refine PW.iast dX5_finish_157 ma_slotOf rfl (Nat.lt_trans hl (by decide)) (by rw [maF_len]; exact hl)  (pm_slotOf hl) ?_
    refine PW.aload_n (i := 0) dX5_finish_158 rfl rfl ?_
    refine PW.getf FX5_finish_22 dX5_finish_159 sm_mod rfl ?_
    refine PW.iload_n (i := 2) dX5_finish_162 rfl rfl ?_
    refine PW.iconst (v := (-1)) dX5_finish_163 (by decide) ?_
    refine PW.iast dX5_finish_164 ma_other rfl (Nat.lt_trans ho (by decide)) (by rw [maF_len]; exact ho)  (pm_other ho) ?_
    refine PW.aload_n (i := 0) dX5_finish_165 rfl rfl ?_
    refine PW.getf FX5_finish_25 dX5_finish_166 sm_mod rfl ?_
    refine PW.iload_n (i := 2) dX5_finish_169 rfl rfl ?_
    refine PW.iconst (v := (-1)) dX5_finish_170 (by decide) ?_
    refine PW.iast dX5_finish_171 ma_slotOf rfl (Nat.lt_trans ho (by decide)) (by rw [maF_len]; exact ho)  (pm_slotOf ho) ?_
    exact PW.vret dX5_finish_172 rfl ⟨rfl, by rw [g_fin, payer, oth, slt, wr, e3, e4, ew, nI_clamp (show o < 2 ^ 31 by omega), nI_clamp (show t < 2 ^ 31 by omega), nI_clamp (show w < 2 ^ 31 by omega)]; first | (rw [if_pos h13, if_pos h13]; rfl) | (rw [if_neg h13, if_neg h13]; rfl)⟩ (by decide) (by decide)
set_option maxRecDepth 100000 in
set_option maxHeartbeats 4000000 in
theorem c5_callLine {M N : dM} {R : pM} {c l : Nat} (hc : c < 24) (hl : l < 24) (l9 : Launch) : pMet l9 yX5_callLine kX5_callLine false [.ref 44, .int (nI c), .int (nI l)] (SM M ++ (MM N ++ R)) (fun v m9 => v = none ∧ m9 = SM M ++ (MM (g_callLine N c l) ++ R)) (fun _ _ => False) := by
  refine pMet.of (by decide) rfl rfl rfl (by intro v hv; simp only [List.mem_cons, List.not_mem_nil, or_false] at hv; rcases hv with rfl | rfl | rfl <;> rfl) (Nat.le_of_ble_eq_true rfl) ?_
  show PW _ _ _ _ _ 0 [some (.ref 44), some (.int (nI c)), some (.int (nI l)), none] [] (SM M ++ (MM N ++ R)) 0 0
  refine PW.iload_n (i := 2) dX5_callLine_0 rfl rfl ?_
  refine PW.iload_n (i := 1) dX5_callLine_1 rfl rfl ?_
  refine PW.icmp_eq (tgt := 14) dX5_callLine_2 (by decide) (fun h2 => ?_) (fun h2 => ?_)
  · refine PW.aload_n (i := 0) dX5_callLine_14 rfl rfl ?_
    refine PW.iload_n (i := 1) dX5_callLine_15 rfl rfl ?_
    refine PW.callV (k := kX5_callLine) (n := 1) (c5_busy hc) dX5_callLine_16 gX5_callLine_X5_busy rfl hd_X5_busy rfl ⟨by decide, by decide⟩ ⟨rfl, rfl⟩ (Nat.le_of_ble_eq_true rfl) ⟨by decide, by decide⟩ sm_mod (by decide) rfl rfl (fun v m9 hp => ?_) (fun _ _ hx => hx.elim)
    obtain ⟨rfl, rfl⟩ := hp
    refine PW.goto (tgt := 82) dX5_callLine_19 (by decide) ?_
    exact PW.vret dX5_callLine_82 rfl ⟨rfl, by rw [g_callLine, if_pos (Or.inl (nI_eq24 hl hc h2))]⟩ (by decide) (by decide)
  · refine PW.aload_n (i := 0) dX5_callLine_5 rfl rfl ?_
    refine PW.getf FX5_callLine_34 dX5_callLine_6 sm_mod rfl ?_
    refine PW.iload_n (i := 2) dX5_callLine_9 rfl rfl ?_
    refine PW.zald dX5_callLine_10 ma_quiet rfl (Nat.lt_trans hl (by decide)) (mg_quiet hl) ?_
    refine PW.if_eq (tgt := 22) dX5_callLine_11 (by decide) (fun h11 => ?_) (fun h11 => ?_)
    · have c1 : ¬ (l = c ∨ ¬ N l 9 = 0) := fun q => q.elim (fun q => h2 (by rw [q])) (fun q => q h11)
      refine PW.aload_n (i := 0) dX5_callLine_22 rfl rfl ?_
      refine PW.getf FX5_callLine_7 dX5_callLine_23 sm_mod rfl ?_
      refine PW.iload_n (i := 2) dX5_callLine_26 rfl rfl ?_
      refine PW.iald dX5_callLine_27 ma_state rfl (Nat.lt_trans hl (by decide)) (mg_state hl) ?_
      refine PW.if_eq (tgt := 46) dX5_callLine_28 (by decide) (fun h28 => ?_) (fun h28 => ?_)
      · refine PW.aload_n (i := 0) dX5_callLine_46 rfl rfl ?_
        refine PW.iload_n (i := 1) dX5_callLine_47 rfl rfl ?_
        refine PW.iload_n (i := 2) dX5_callLine_48 rfl rfl ?_
        refine PW.callV (k := kX5_callLine) (n := 2) (c5_take hc hl) dX5_callLine_49 gX5_callLine_X5_take rfl hd_X5_take rfl ⟨by decide, by decide⟩ ⟨rfl, rfl⟩ (Nat.le_of_ble_eq_true rfl) ⟨by decide, by decide⟩ sm_mod (by decide) rfl rfl (fun v m9 hp => ?_) (fun _ _ hx => hx.elim)
        obtain ⟨rfl, rfl⟩ := hp
        refine PW.istore_n (i := 3) dX5_callLine_52 rfl (by decide) rfl ?_
        refine PW.iload_n (i := 3) dX5_callLine_53 rfl rfl ?_
        refine PW.if_ge (tgt := 75) dX5_callLine_54 (by decide) (fun h54 => ?_) (fun h54 => ?_)
        · refine PW.aload_n (i := 0) dX5_callLine_75 rfl rfl ?_
          refine PW.iload_n (i := 1) dX5_callLine_76 rfl rfl ?_
          refine PW.iload_n (i := 2) dX5_callLine_77 rfl rfl ?_
          refine PW.iload_n (i := 3) dX5_callLine_78 rfl rfl ?_
          refine PW.callV (k := kX5_callLine) (n := 3) (c5_ring hc hl _) dX5_callLine_79 gX5_callLine_X5_ring rfl hd_X5_ring rfl ⟨by decide, by decide⟩ ⟨rfl, rfl⟩ (Nat.le_of_ble_eq_true rfl) ⟨by decide, by decide⟩ sm_mod (by decide) rfl rfl (fun v m9 hp => ?_) (fun _ _ hx => hx.elim)
          obtain ⟨rfl, rfl⟩ := hp
          first | exact PW.vret dX5_callLine_82 rfl ⟨rfl, by rw [g_callLine, if_pos (Or.inr h11)]⟩ (by decide) (by decide) | exact PW.vret dX5_callLine_82 rfl ⟨rfl, by rw [g_callLine, if_neg c1, if_pos h28]⟩ (by decide) (by decide) | exact PW.vret dX5_callLine_82 rfl ⟨rfl, by rw [g_callLine, if_neg c1, if_neg (fun q => q h28), if_neg (Int32.not_lt.mpr h54)]⟩ (by decide) (by decide) | exact PW.vret dX5_callLine_82 rfl ⟨rfl, by rw [g_callLine, if_neg c1, if_neg (fun q => q h28), if_pos (Int32.not_le.mp h54)]⟩ (by decide) (by decide)
        · refine PW.aload_n (i := 0) dX5_callLine_57 rfl rfl ?_
          refine PW.dup dX5_callLine_58 rfl ?_
          refine PW.getf FX5_callLine_123 dX5_callLine_59 sm_mod rfl ?_
          refine PW.iconst (v := 1) dX5_callLine_62 (by decide) ?_
          refine PW.iadd dX5_callLine_63 ?_
          refine PW.putf FX5_callLine_123 (Fw_5_22 _) dX5_callLine_64 sm_mod (Nat.le_of_ble_eq_true rfl) (fun _ => rfl) (fun _ => rfl) pm_blocked ?_
          refine PW.aload_n (i := 0) dX5_callLine_67 rfl rfl ?_
          refine PW.iload_n (i := 1) dX5_callLine_68 rfl rfl ?_
          refine PW.callV (k := kX5_callLine) (n := 1) (c5_busy hc) dX5_callLine_69 gX5_callLine_X5_busy rfl hd_X5_busy rfl ⟨by decide, by decide⟩ ⟨rfl, rfl⟩ (Nat.le_of_ble_eq_true rfl) ⟨by decide, by decide⟩ sm_mod (by decide) rfl rfl (fun v m9 hp => ?_) (fun _ _ hx => hx.elim)
          obtain ⟨rfl, rfl⟩ := hp
          refine PW.goto (tgt := 82) dX5_callLine_72 (by decide) ?_
          first | exact PW.vret dX5_callLine_82 rfl ⟨rfl, by rw [g_callLine, if_pos (Or.inr h11)]⟩ (by decide) (by decide) | exact PW.vret dX5_callLine_82 rfl ⟨rfl, by rw [g_callLine, if_neg c1, if_pos h28]⟩ (by decide) (by decide) | exact PW.vret dX5_callLine_82 rfl ⟨rfl, by rw [g_callLine, if_neg c1, if_neg (fun q => q h28), if_neg (Int32.not_lt.mpr h54)]⟩ (by decide) (by decide) | exact PW.vret dX5_callLine_82 rfl ⟨rfl, by rw [g_callLine, if_neg c1, if_neg (fun q => q h28), if_pos (Int32.not_le.mp h54)]⟩ (by decide) (by decide)
      · refine PW.aload_n (i := 0) dX5_callLine_31 rfl rfl ?_
        refine PW.iload_n (i := 1) dX5_callLine_32 rfl rfl ?_
        refine PW.callV (k := kX5_callLine) (n := 1) (c5_busy hc) dX5_callLine_33 gX5_callLine_X5_busy rfl hd_X5_busy rfl ⟨by decide, by decide⟩ ⟨rfl, rfl⟩ (Nat.le_of_ble_eq_true rfl) ⟨by decide, by decide⟩ sm_mod (by decide) rfl rfl (fun v m9 hp => ?_) (fun _ _ hx => hx.elim)
        obtain ⟨rfl, rfl⟩ := hp
        refine PW.aload_n (i := 0) dX5_callLine_36 rfl rfl ?_
        refine PW.getf FX5_callLine_31 dX5_callLine_37 sm_mod rfl ?_
        refine PW.iload_n (i := 1) dX5_callLine_40 rfl rfl ?_
        refine PW.iload_n (i := 2) dX5_callLine_41 rfl rfl ?_
        refine PW.iast dX5_callLine_42 ma_late rfl (Nat.lt_trans hc (by decide)) (by rw [maF_len]; exact hc)  (pm_late hc) ?_
        refine PW.goto (tgt := 82) dX5_callLine_43 (by decide) ?_
        first | exact PW.vret dX5_callLine_82 rfl ⟨rfl, by rw [g_callLine, if_pos (Or.inr h11)]⟩ (by decide) (by decide) | exact PW.vret dX5_callLine_82 rfl ⟨rfl, by rw [g_callLine, if_neg c1, if_pos h28]⟩ (by decide) (by decide) | exact PW.vret dX5_callLine_82 rfl ⟨rfl, by rw [g_callLine, if_neg c1, if_neg (fun q => q h28), if_neg (Int32.not_lt.mpr h54)]⟩ (by decide) (by decide) | exact PW.vret dX5_callLine_82 rfl ⟨rfl, by rw [g_callLine, if_neg c1, if_neg (fun q => q h28), if_pos (Int32.not_le.mp h54)]⟩ (by decide) (by decide)
    · refine PW.aload_n (i := 0) dX5_callLine_14 rfl rfl ?_
      refine PW.iload_n (i := 1) dX5_callLine_15 rfl rfl ?_
      refine PW.callV (k := kX5_callLine) (n := 1) (c5_busy hc) dX5_callLine_16 gX5_callLine_X5_busy rfl hd_X5_busy rfl ⟨by decide, by decide⟩ ⟨rfl, rfl⟩ (Nat.le_of_ble_eq_true rfl) ⟨by decide, by decide⟩ sm_mod (by decide) rfl rfl (fun v m9 hp => ?_) (fun _ _ hx => hx.elim)
      obtain ⟨rfl, rfl⟩ := hp
      refine PW.goto (tgt := 82) dX5_callLine_19 (by decide) ?_
      first | exact PW.vret dX5_callLine_82 rfl ⟨rfl, by rw [g_callLine, if_pos (Or.inr h11)]⟩ (by decide) (by decide) | exact PW.vret dX5_callLine_82 rfl ⟨rfl, by rw [g_callLine, if_neg c1, if_pos h28]⟩ (by decide) (by decide) | exact PW.vret dX5_callLine_82 rfl ⟨rfl, by rw [g_callLine, if_neg c1, if_neg (fun q => q h28), if_neg (Int32.not_lt.mpr h54)]⟩ (by decide) (by decide) | exact PW.vret dX5_callLine_82 rfl ⟨rfl, by rw [g_callLine, if_neg c1, if_neg (fun q => q h28), if_pos (Int32.not_le.mp h54)]⟩ (by decide) (by decide)
theorem GN_step {Q N : dM} {l c : Nat} (h : Rx 24 Q N) (hI : Iv 24 Q) (hS : Sf Q) (hl : l < 24) (hc : c < 24) (e10 : Q l 10 = nI c) (h0 : Q l 1 = 0) : GN (g_callLine (up2 (up2 N l 10 (-1)) c 3 (-1)) c l) := by
  obtain ⟨b1, b2, b3⟩ := camp_call h hI hl hc e10 h0
  obtain ⟨b4, b5⟩ := callLine_eq b1 b2 b3 hc hl
  exact ⟨_, b4, b5, (hS.camp0 hl (Or.inl rfl)).callLine hc hl⟩
set_option maxRecDepth 100000 in
set_option maxHeartbeats 4000000 in
theorem se_loop {M : dM} {R : pM} {n0 : Nat} {fin : dM} : ∀ (n s : Nat) (N : dM) (w2 : Option Value), s + n = 24 → GN N → seL n s N = fin → PW kX5_settle false n0 (fun v m9 => v = none ∧ m9 = SM M ++ (MM fin ++ R)) (fun _ _ => False) 2 [some (.ref 44), some (.int (nI s)), w2] [] (SM M ++ (MM N ++ R)) 0 0 := by
  intro n
  induction n with
  | zero =>
    intro s N w2 hs hG hr
    refine PW.iload_n (i := 1) dX5_settle_2 rfl rfl ?_
    refine PW.bipush (v := 24) dX5_settle_3 (by decide) ?_
    refine PW.icmp_ge (tgt := 59) dX5_settle_5 (by decide) (fun _ => ?_) (fun h5 => absurd (nI_le (a := 24) (b := s) (by omega) (by omega)) h5)
    exact PW.vret dX5_settle_59 rfl ⟨rfl, by rw [← hr]; rfl⟩ (by decide) (by decide)
  | succ n ih =>
    intro s N w2 hs hG hr
    refine PW.iload_n (i := 1) dX5_settle_2 rfl rfl ?_
    refine PW.bipush (v := 24) dX5_settle_3 (by decide) ?_
    refine PW.icmp_ge (tgt := 59) dX5_settle_5 (by decide) (fun h5 => absurd h5 (nI_ge (a := s) (b := 24) (by omega) (by decide))) (fun _ => ?_)
    have hs9 : s < 24 := by omega
    refine PW.aload_n (i := 0) dX5_settle_8 rfl rfl ?_
    refine PW.getf FX5_settle_7 dX5_settle_9 sm_mod rfl ?_
    refine PW.iload_n (i := 1) dX5_settle_12 rfl rfl ?_
    refine PW.iald dX5_settle_13 ma_state rfl (Nat.lt_trans hs9 (by decide)) (mg_state hs9) ?_
    refine PW.if_ne (tgt := 53) dX5_settle_14 (by decide) (fun h14 => ?_) (fun h14 => ?_)
    · refine PW.iinc (v := nI (s + 1)) dX5_settle_53 rfl (nI_1 s) (by decide) rfl ?_
      refine PW.goto (tgt := 2) dX5_settle_56 (by decide) ?_
      exact ih (s + 1) _ _ (by omega) hG (by rw [← hr, seL, if_neg (fun q => h14 q.1)])
    · refine PW.aload_n (i := 0) dX5_settle_17 rfl rfl ?_
      refine PW.getf FX5_settle_47 dX5_settle_18 sm_mod rfl ?_
      refine PW.iload_n (i := 1) dX5_settle_21 rfl rfl ?_
      refine PW.iald dX5_settle_22 ma_camper rfl (Nat.lt_trans hs9 (by decide)) (mg_camper hs9) ?_
      refine PW.if_lt (tgt := 53) dX5_settle_23 (by decide) (fun h23 => ?_) (fun h23 => ?_)
      · refine PW.iinc (v := nI (s + 1)) dX5_settle_53 rfl (nI_1 s) (by decide) rfl ?_
        refine PW.goto (tgt := 2) dX5_settle_56 (by decide) ?_
        exact ih (s + 1) _ _ (by omega) hG (by rw [← hr, seL, if_neg (fun q => q.2 h23)])
      · obtain ⟨Q, q1, q2, q3⟩ := hG
        obtain ⟨qL, -⟩ := q1.1 s hs9 (by omega)
        obtain ⟨c, hc, ec⟩ : ∃ c, c < 24 ∧ N s 10 = nI c := by
          rcases (q3.1 s hs9).2.2.2.1 with q | ⟨c, hc, q⟩
          · exfalso; rw [← qL.2.2.2.2.2.2.2.2.1, q] at h23; exact h23 (by decide)
          · exact ⟨c, hc, by rw [← qL.2.2.2.2.2.2.2.2.1]; exact q⟩
        refine PW.aload_n (i := 0) dX5_settle_26 rfl rfl ?_
        refine PW.getf FX5_settle_47 dX5_settle_27 sm_mod rfl ?_
        refine PW.iload_n (i := 1) dX5_settle_30 rfl rfl ?_
        refine PW.iald dX5_settle_31 ma_camper rfl (Nat.lt_trans hs9 (by decide)) (mg_camper hs9) ?_
        rw [ec]
        refine PW.istore_n (i := 2) dX5_settle_32 rfl (by decide) rfl ?_
        refine PW.aload_n (i := 0) dX5_settle_33 rfl rfl ?_
        refine PW.getf FX5_settle_47 dX5_settle_34 sm_mod rfl ?_
        refine PW.iload_n (i := 1) dX5_settle_37 rfl rfl ?_
        refine PW.iconst (v := (-1)) dX5_settle_38 (by decide) ?_
        refine PW.iast dX5_settle_39 ma_camper rfl (Nat.lt_trans hs9 (by decide)) (by rw [maF_len]; exact hs9)  (pm_camper hs9) ?_
        refine PW.aload_n (i := 0) dX5_settle_40 rfl rfl ?_
        refine PW.getf FX5_settle_22 dX5_settle_41 sm_mod rfl ?_
        refine PW.iload_n (i := 2) dX5_settle_44 rfl rfl ?_
        refine PW.iconst (v := (-1)) dX5_settle_45 (by decide) ?_
        refine PW.iast dX5_settle_46 ma_other rfl (Nat.lt_trans hc (by decide)) (by rw [maF_len]; exact hc)  (pm_other hc) ?_
        refine PW.aload_n (i := 0) dX5_settle_47 rfl rfl ?_
        refine PW.iload_n (i := 2) dX5_settle_48 rfl rfl ?_
        refine PW.iload_n (i := 1) dX5_settle_49 rfl rfl ?_
        refine PW.callV (k := kX5_settle) (n := 2) (c5_callLine hc hs9) dX5_settle_50 gX5_settle_X5_callLine rfl hd_X5_callLine rfl ⟨by decide, by decide⟩ ⟨rfl, rfl⟩ (Nat.le_of_ble_eq_true rfl) ⟨by decide, by decide⟩ sm_mod (by decide) rfl rfl (fun v m9 hp => ?_) (fun _ _ hx => hx.elim)
        obtain ⟨rfl, rfl⟩ := hp
        refine PW.iinc (v := nI (s + 1)) dX5_settle_53 rfl (nI_1 s) (by decide) rfl ?_
        refine PW.goto (tgt := 2) dX5_settle_56 (by decide) ?_
        exact ih (s + 1) _ _ (by omega) (GN_step q1 q2 q3 hs9 hc (by rw [qL.2.2.2.2.2.2.2.2.1]; exact ec) (by rw [qL.1]; exact h14)) (by rw [← hr, seL, if_pos ⟨h14, h23⟩, ec, nI_clamp (by omega)])
set_option maxRecDepth 100000 in
set_option maxHeartbeats 4000000 in
theorem c5_settle {M N : dM} {R : pM} (hG : GN N) (l9 : Launch) : pMet l9 yX5_settle kX5_settle false [.ref 44] (SM M ++ (MM N ++ R)) (fun v m9 => v = none ∧ m9 = SM M ++ (MM (g_settle N) ++ R)) (fun _ _ => False) := by
  refine pMet.of (by decide) rfl rfl rfl (by intro v hv; simp only [List.mem_cons, List.not_mem_nil, or_false] at hv; subst hv; rfl) (Nat.le_of_ble_eq_true rfl) ?_
  show PW _ _ _ _ _ 0 [some (.ref 44), none, none] [] (SM M ++ (MM N ++ R)) 0 0
  refine PW.iconst (v := 0) dX5_settle_0 (by decide) ?_
  refine PW.istore_n (i := 1) dX5_settle_1 rfl (by decide) rfl ?_
  exact se_loop 24 0 N _ rfl hG rfl
