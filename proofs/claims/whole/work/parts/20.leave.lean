def f_leave (M : dM) (l : Nat) : dM := if M l 1 = 6 then f_end M l else if M l 1 = 3 then f_stop M l else if M l 1 = 7 then up2 M 36 (oth M l) (-1) else if M l 1 = 8 then up2 M (oth M l) 10 (-1) else M
theorem Sf.camp0 {M : dM} {l : Nat} {x : Int32} (h : Sf M) (hl : l < 24) (hx : x = -1 ∨ ∃ c, c < 24 ∧ x = nI c) : Sf (up2 M l 10 x) := by
  refine h.line (l := l) (fun r j hr _ => up2_r hr) hl ?_
  obtain ⟨a1, a2, a3, a4, a5⟩ := h.1 l hl
  have e : ∀ i, i ≠ 10 → up2 M l 10 x l i = M l i := fun i hi => up2_j hi
  unfold lnOK
  rw [e 1 (by decide), e 3 (by decide), e 4 (by decide), e 5 (by decide), up2_s]
  exact ⟨a1, a2, a3, hx, a5⟩
theorem Sf.end {M : dM} {l : Nat} (h : Sf M) (hl : l < 24) (h6 : M l 1 = 6) : Sf (f_end M l) := by
  obtain ⟨o, t, ho, ht, e3, e4⟩ := (h.1 l hl).1 (Or.inr h6)
  have eo : oth M l = o := by rw [oth, e3, nI_clamp (by omega)]
  unfold f_end payer
  rw [eo]
  exact h.end3 hl ho (by split <;> assumption)
theorem Sf.leave {M : dM} {l : Nat} (h : Sf M) (hl : l < 24) : Sf (f_leave M l) := by
  unfold f_leave
  split
  · next h6 => exact h.end hl h6
  · split
    · exact h.stop hl
    · split
      · exact h.plc (Or.inl rfl)
      · split
        · next h8 =>
          obtain ⟨o, ho, e3⟩ := (h.1 l hl).2.2.1 h8
          rw [oth, e3, nI_clamp (by omega)]
          exact h.camp0 ho (Or.inl rfl)
        · exact h
theorem tsw_lv {x : Int32} (e3 : ¬ x = 3) (e6 : ¬ x = 6) (e7 : ¬ x = 7) (e8 : ¬ x = 8) : (x.toInt < 3 ∨ 8 < x.toInt) ∨ x = 4 ∨ x = 5 := by
  have h : ∀ k : Int32, ¬ x = k → x.toInt ≠ k.toInt := fun k hk q => hk (Int32.toInt_inj.mp q)
  have a3 : x.toInt ≠ 3 := h 3 e3
  have a6 : x.toInt ≠ 6 := h 6 e6
  have a7 : x.toInt ≠ 7 := h 7 e7
  have a8 : x.toInt ≠ 8 := h 8 e8
  by_cases b4 : x = 4
  · exact Or.inr (Or.inl b4)
  by_cases b5 : x = 5
  · exact Or.inr (Or.inr b5)
  have a4 : x.toInt ≠ 4 := h 4 b4
  have a5 : x.toInt ≠ 5 := h 5 b5
  left
  omega
theorem tsw_leave {k : pK} {al : Bool} {n0 : Nat} {P : pP} {T : pT} {L : pL} {st : List Value} {mem : pM} {cells slots : Nat} (d : decode k.cc 4 = .ok (.tableswitch 86 3 8 #[49, 86, 86, 40, 57, 70], 40)) (x : Int32) (e3 : ¬ x = 3) (e6 : ¬ x = 6) (e7 : ¬ x = 7) (e8 : ¬ x = 8) (kk : PW k al n0 P T 90 L st mem cells slots) : PW k al n0 P T 4 L (.int x :: st) mem cells slots := by
  rcases tsw_lv e3 e6 e7 e8 with h | rfl | rfl
  · exact PW.tableOut (tgt := 90) d h (by decide) kk
  · exact PW.tableIn (off := 86) (tgt := 90) d (by decide) (by decide) (by decide) (by decide) kk
  · exact PW.tableIn (off := 86) (tgt := 90) d (by decide) (by decide) (by decide) (by decide) kk
set_option maxRecDepth 100000 in
set_option maxHeartbeats 4000000 in
theorem c_leave {M : dM} {R : pM} {l : Nat} (hS : Sf M) (hl : l < 24) (hw : M l 1 = 6 → M 37 1 = nI (wr M) ∧ wr M < 100000) (l9 : Launch) : pMet l9 yX4_leave kX4_leave false [.ref 0, .ref (2 + l)] (SM M ++ R) (fun v m9 => v = none ∧ m9 = SM (f_leave M l) ++ R) (fun _ _ => False) := by
  refine pMet.of (by decide) rfl rfl rfl (by intro v hv; simp only [List.mem_cons, List.not_mem_nil, or_false] at hv; rcases hv with rfl | rfl <;> rfl) (Nat.le_of_ble_eq_true rfl) ?_
  show PW _ _ _ _ _ 0 [some (.ref 0), some (.ref (2 + l))] [] (SM M ++ R) 0 0
  refine PW.aload_n (i := 1) dX4_leave_0 rfl rfl ?_
  refine PW.getf FX4_leave_64 dX4_leave_1 (sm_line hl) rfl ?_
  by_cases s6 : M l 1 = 6
  · refine PW.tableIn (off := 40) (tgt := 44) dX4_leave_4 (by rw [s6]; decide) (by rw [s6]; decide) (by rw [s6]; decide) (by decide) ?_
    have hw := hw s6
    obtain ⟨o, t, ho, ht, e3, e4⟩ := (hS.1 l hl).1 (Or.inr s6)
    refine PW.aload_n (i := 0) dX4_leave_44 rfl rfl ?_
    refine PW.aload_n (i := 1) dX4_leave_45 rfl rfl ?_
    refine PW.callV (k := kX4_leave) (n := 1) (c_endTalk hl ho ht e3 e4 hw) dX4_leave_46 gX4_leave_X4_endTalk rfl hd_X4_endTalk rfl ⟨by decide, by decide⟩ ⟨rfl, rfl⟩ (Nat.le_of_ble_eq_true rfl) ⟨by decide, by decide⟩ sm_desk (by decide) rfl rfl (fun v m9 hp => ?_) (fun _ _ hx => hx.elim)
    obtain ⟨rfl, rfl⟩ := hp
    refine PW.pop dX4_leave_49 rfl ?_
    refine PW.goto (tgt := 90) dX4_leave_50 (by decide) ?_
    exact PW.vret dX4_leave_90 rfl ⟨rfl, by rw [f_leave, if_pos s6]⟩ (by decide) (by decide)
  by_cases s3 : M l 1 = 3
  · refine PW.tableIn (off := 49) (tgt := 53) dX4_leave_4 (by rw [s3]; decide) (by rw [s3]; decide) (by rw [s3]; decide) (by decide) ?_
    refine PW.aload_n (i := 0) dX4_leave_53 rfl rfl ?_
    refine PW.aload_n (i := 1) dX4_leave_54 rfl rfl ?_
    refine PW.callV (k := kX4_leave) (n := 1) (c_stopRinging hS hl) dX4_leave_55 gX4_leave_X4_stopRinging rfl hd_X4_stopRinging rfl ⟨by decide, by decide⟩ ⟨rfl, rfl⟩ (Nat.le_of_ble_eq_true rfl) ⟨by decide, by decide⟩ sm_desk (by decide) rfl rfl (fun v m9 hp => ?_) (fun _ _ hx => hx.elim)
    obtain ⟨rfl, rfl⟩ := hp
    refine PW.goto (tgt := 90) dX4_leave_58 (by decide) ?_
    exact PW.vret dX4_leave_90 rfl ⟨rfl, by rw [f_leave, if_neg s6, if_pos s3]⟩ (by decide) (by decide)
  by_cases s7 : M l 1 = 7
  · refine PW.tableIn (off := 57) (tgt := 61) dX4_leave_4 (by rw [s7]; decide) (by rw [s7]; decide) (by rw [s7]; decide) (by decide) ?_
    obtain ⟨p, hp, e3⟩ := (hS.1 l hl).2.1 s7
    refine PW.aload_n (i := 0) dX4_leave_61 rfl rfl ?_
    refine PW.getf FX4_leave_32 dX4_leave_62 sm_desk rfl ?_
    refine PW.aload_n (i := 1) dX4_leave_65 rfl rfl ?_
    refine PW.getf FX4_leave_106 dX4_leave_66 (sm_line hl) rfl ?_
    refine PW.iconst (v := (-1)) dX4_leave_69 (by decide) ?_
    refine PW.iast dX4_leave_70 sm_plc e3 (by omega) (by rw [iaF_len]; exact hp) pu_plc ?_
    refine PW.goto (tgt := 90) dX4_leave_71 (by decide) ?_
    exact PW.vret dX4_leave_90 rfl ⟨rfl, by rw [f_leave, if_neg s6, if_neg s3, if_pos s7, oth, e3, nI_clamp (by omega)]⟩ (by decide) (by decide)
  by_cases s8 : M l 1 = 8
  · refine PW.tableIn (off := 70) (tgt := 74) dX4_leave_4 (by rw [s8]; decide) (by rw [s8]; decide) (by rw [s8]; decide) (by decide) ?_
    obtain ⟨o, ho, e3⟩ := (hS.1 l hl).2.2.1 s8
    refine PW.aload_n (i := 0) dX4_leave_74 rfl rfl ?_
    refine PW.getf FX4_leave_11 dX4_leave_75 sm_desk rfl ?_
    refine PW.aload_n (i := 1) dX4_leave_78 rfl rfl ?_
    refine PW.getf FX4_leave_106 dX4_leave_79 (sm_line hl) rfl ?_
    refine PW.aald dX4_leave_82 sm_lines (by decide) (fun _ => rfl) rfl e3 (Nat.lt_trans ho (by decide)) (lnA_get ho) ?_
    refine PW.iconst (v := (-1)) dX4_leave_83 (by decide) ?_
    refine PW.putf FX4_leave_101 (Fw_2_10 _) dX4_leave_84 (sm_line ho) (Nat.le_of_ble_eq_true rfl) (fun _ => rfl) (fun _ => rfl) (pu_line ho (by decide) (by decide)) ?_
    refine PW.goto (tgt := 90) dX4_leave_87 (by decide) ?_
    exact PW.vret dX4_leave_90 rfl ⟨rfl, by rw [f_leave, if_neg s6, if_neg s3, if_neg s7, if_pos s8, oth, e3, nI_clamp (by omega)]⟩ (by decide) (by decide)
  refine tsw_leave (k := kX4_leave) dX4_leave_4 (M l 1) s3 s6 s7 s8 ?_
  exact PW.vret dX4_leave_90 rfl ⟨rfl, by rw [f_leave, if_neg s6, if_neg s3, if_neg s7, if_neg s8]⟩ (by decide) (by decide)
def cfL : Nat → Nat → dM → dM
  | 0, _, M => M
  | n + 1, l, M => if ¬ M l 10 = -1 ∧ M l 1 = 0 then cfL n (l + 1) (f_callLine (up2 M l 10 (-1)) (M l 10).toNatClampNeg l) else cfL n (l + 1) M
def f_camps (M : dM) : dM := cfL 24 0 M
theorem Sf_cf : ∀ (n l : Nat) (M : dM), l + n = 24 → Sf M → Sf (cfL n l M)
  | 0, _, _, _, h => h
  | n + 1, l, M, e, h => by
    rw [cfL]
    split
    · next hc =>
      obtain ⟨c, hc9, ec⟩ := ((h.1 l (by omega)).2.2.2.1).resolve_left hc.1
      rw [ec, nI_clamp (by omega)]
      exact Sf_cf n (l + 1) _ (by omega) ((h.camp0 (by omega) (Or.inl rfl)).callLine hc9 (by omega))
    · exact Sf_cf n (l + 1) _ (by omega) h
theorem Sf.camps {M : dM} (h : Sf M) : Sf (f_camps M) := Sf_cf 24 0 M rfl h
set_option maxRecDepth 100000 in
set_option maxHeartbeats 4000000 in
theorem cf_loop {R : pM} {n0 : Nat} {fin : dM} : ∀ (n s : Nat) (M : dM) (w2 w3 : Option Value), s + n = 24 → Sf M → cfL n s M = fin → PW kX4_callFromCamps false n0 (fun v m9 => v = none ∧ m9 = SM fin ++ R) (fun _ _ => False) 2 [some (.ref 0), some (.int (nI s)), w2, w3] [] (SM M ++ R) 0 0 := by
  intro n
  induction n with
  | zero =>
    intro s M w2 w3 hs hS hr
    refine PW.iload_n (i := 1) dX4_callFromCamps_2 rfl rfl ?_
    refine PW.bipush (v := 24) dX4_callFromCamps_3 (by decide) ?_
    refine PW.icmp_ge (tgt := 57) dX4_callFromCamps_5 (by decide) (fun _ => ?_) (fun h5 => absurd (nI_le (a := 24) (b := s) (by omega) (by omega)) h5)
    exact PW.vret dX4_callFromCamps_57 rfl ⟨rfl, by rw [← hr]; rfl⟩ (by decide) (by decide)
  | succ n ih =>
    intro s M w2 w3 hs hS hr
    refine PW.iload_n (i := 1) dX4_callFromCamps_2 rfl rfl ?_
    refine PW.bipush (v := 24) dX4_callFromCamps_3 (by decide) ?_
    refine PW.icmp_ge (tgt := 57) dX4_callFromCamps_5 (by decide) (fun h5 => absurd h5 (nI_ge (a := s) (b := 24) (by omega) (by decide))) (fun _ => ?_)
    have hs9 : s < 24 := by omega
    refine PW.aload_n (i := 0) dX4_callFromCamps_8 rfl rfl ?_
    refine PW.getf FX4_callFromCamps_11 dX4_callFromCamps_9 sm_desk rfl ?_
    refine PW.iload_n (i := 1) dX4_callFromCamps_12 rfl rfl ?_
    refine PW.aald dX4_callFromCamps_13 sm_lines (by decide) (fun _ => rfl) rfl rfl (Nat.lt_trans hs9 (by decide)) (lnA_get hs9) ?_
    refine PW.astore_n (i := 2) dX4_callFromCamps_14 rfl (by decide) rfl ?_
    refine PW.aload_n (i := 2) dX4_callFromCamps_15 rfl rfl ?_
    refine PW.getf FX4_callFromCamps_101 dX4_callFromCamps_16 (sm_line hs9) rfl ?_
    refine PW.iconst (v := (-1)) dX4_callFromCamps_19 (by decide) ?_
    refine PW.icmp_eq (tgt := 51) dX4_callFromCamps_20 (by decide) (fun h20 => ?_) (fun h20 => ?_)
    · refine PW.iinc (v := nI (s + 1)) dX4_callFromCamps_51 rfl (nI_1 s) (by decide) rfl ?_
      refine PW.goto (tgt := 2) dX4_callFromCamps_54 (by decide) ?_
      exact ih (s + 1) _ _ _ (by omega) hS (by rw [← hr, cfL, if_neg (fun q => q.1 h20)])
    · refine PW.aload_n (i := 2) dX4_callFromCamps_23 rfl rfl ?_
      refine PW.getf FX4_callFromCamps_64 dX4_callFromCamps_24 (sm_line hs9) rfl ?_
      refine PW.if_ne (tgt := 51) dX4_callFromCamps_27 (by decide) (fun h27 => ?_) (fun h27 => ?_)
      · refine PW.iinc (v := nI (s + 1)) dX4_callFromCamps_51 rfl (nI_1 s) (by decide) rfl ?_
        refine PW.goto (tgt := 2) dX4_callFromCamps_54 (by decide) ?_
        exact ih (s + 1) _ _ _ (by omega) hS (by rw [← hr, cfL, if_neg (fun q => h27 q.2)])
      · obtain ⟨c, hc9, ec⟩ := ((hS.1 s hs9).2.2.2.1).resolve_left h20
        refine PW.aload_n (i := 0) dX4_callFromCamps_30 rfl rfl ?_
        refine PW.getf FX4_callFromCamps_11 dX4_callFromCamps_31 sm_desk rfl ?_
        refine PW.aload_n (i := 2) dX4_callFromCamps_34 rfl rfl ?_
        refine PW.getf FX4_callFromCamps_101 dX4_callFromCamps_35 (sm_line hs9) rfl ?_
        refine PW.aald dX4_callFromCamps_38 sm_lines (by decide) (fun _ => rfl) rfl ec (Nat.lt_trans hc9 (by decide)) (lnA_get hc9) ?_
        refine PW.astore_n (i := 3) dX4_callFromCamps_39 rfl (by decide) rfl ?_
        refine PW.aload_n (i := 2) dX4_callFromCamps_40 rfl rfl ?_
        refine PW.iconst (v := (-1)) dX4_callFromCamps_41 (by decide) ?_
        refine PW.putf FX4_callFromCamps_101 (Fw_2_10 _) dX4_callFromCamps_42 (sm_line hs9) (Nat.le_of_ble_eq_true rfl) (fun _ => rfl) (fun _ => rfl) (pu_line hs9 (by decide) (by decide)) ?_
        refine PW.aload_n (i := 0) dX4_callFromCamps_45 rfl rfl ?_
        refine PW.aload_n (i := 3) dX4_callFromCamps_46 rfl rfl ?_
        refine PW.aload_n (i := 2) dX4_callFromCamps_47 rfl rfl ?_
        refine PW.callV (k := kX4_callFromCamps) (n := 2) (c_callLine hc9 hs9) dX4_callFromCamps_48 gX4_callFromCamps_X4_callLine rfl hd_X4_callLine rfl ⟨by decide, by decide⟩ ⟨rfl, rfl⟩ (Nat.le_of_ble_eq_true rfl) ⟨by decide, by decide⟩ sm_desk (by decide) rfl rfl (fun v m9 hp => ?_) (fun _ _ hx => hx.elim)
        obtain ⟨rfl, rfl⟩ := hp
        refine PW.iinc (v := nI (s + 1)) dX4_callFromCamps_51 rfl (nI_1 s) (by decide) rfl ?_
        refine PW.goto (tgt := 2) dX4_callFromCamps_54 (by decide) ?_
        exact ih (s + 1) _ _ _ (by omega) ((hS.camp0 hs9 (Or.inl rfl)).callLine hc9 hs9) (by rw [← hr, cfL, if_pos ⟨h20, h27⟩, ec, nI_clamp (by omega)])
set_option maxRecDepth 100000 in
set_option maxHeartbeats 4000000 in
theorem c_callFromCamps {M : dM} {R : pM} (hS : Sf M) (l9 : Launch) : pMet l9 yX4_callFromCamps kX4_callFromCamps false [.ref 0] (SM M ++ R) (fun v m9 => v = none ∧ m9 = SM (f_camps M) ++ R) (fun _ _ => False) := by
  refine pMet.of (by decide) rfl rfl rfl (by intro v hv; simp only [List.mem_cons, List.not_mem_nil, or_false] at hv; subst hv; rfl) (Nat.le_of_ble_eq_true rfl) ?_
  show PW _ _ _ _ _ 0 [some (.ref 0), none, none, none] [] (SM M ++ R) 0 0
  refine PW.iconst (v := 0) dX4_callFromCamps_0 (by decide) ?_
  refine PW.istore_n (i := 1) dX4_callFromCamps_1 rfl (by decide) rfl ?_
  exact cf_loop 24 0 _ _ _ rfl hS rfl
theorem rng {x : Int32} {a b : Nat} (ha : a < 2 ^ 31) (hb : b < 2 ^ 31) (h1 : ¬ x < nI a) (h2 : ¬ nI b ≤ x) : ∃ j, a ≤ j ∧ j < b ∧ x = nI j := by
  rcases pk_ix x hb with h | h | ⟨j, hj, rfl⟩
  · exfalso
    apply h1
    rw [Int32.lt_iff_toInt_lt] at h ⊢
    rw [nI_toInt ha]
    rw [Int32.toInt_zero] at h
    omega
  · exact absurd h h2
  · refine ⟨j, ?_, hj, rfl⟩
    rcases Nat.lt_or_ge j a with q | q
    · exact absurd (nI_lt q ha) h1
    · exact q
def f_rest (M : dM) (c : Nat) (x : Int32) : dM := if x = 51 then up2 M c 9 1 else if x = 52 then up2 M c 9 0 else M
def f_call (M : dM) (c : Nat) (x : Int32) : dM :=
  if ¬ x < 10 ∧ ¬ 34 ≤ x then f_callLine M c (x - 10).toNatClampNeg
  else if ¬ x < 40 ∧ ¬ 44 ≤ x then f_callGroup M c (x - 40).toNatClampNeg
  else if x = 50 then f_pick M c
  else if ¬ x < 60 ∧ ¬ 64 ≤ x then f_unpark M c (x - 60).toNatClampNeg
  else f_enter (f_rest M c x) c 5 (f_rest M c x 39 5)
theorem Sf.call {M : dM} {c : Nat} {x : Int32} (h : Sf M) (hc : c < 24) : Sf (f_call M c x) := by
  unfold f_call
  split
  · next q =>
    obtain ⟨j, h1, h2, rfl⟩ := rng (a := 10) (b := 34) (by decide) (by decide) q.1 q.2
    rw [show nI j - 10 = nI (j - 10) from pk_sub (b := 10) h1, nI_clamp (by omega)]
    exact h.callLine hc (by omega)
  · split
    · next q =>
      obtain ⟨j, h1, h2, rfl⟩ := rng (a := 40) (b := 44) (by decide) (by decide) q.1 q.2
      rw [show nI j - 40 = nI (j - 40) from pk_sub (b := 40) h1, nI_clamp (by omega)]
      exact h.callGroup hc (by omega)
    · split
      · exact h.pick hc
      · split
        · next q =>
          obtain ⟨j, h1, h2, rfl⟩ := rng (a := 60) (b := 64) (by decide) (by decide) q.1 q.2
          rw [show nI j - 60 = nI (j - 60) from pk_sub (b := 60) h1, nI_clamp (by omega)]
          exact h.unpark hc (by omega)
        · refine Sf.enter ?_ hc (by decide) (by decide) (by decide) (by decide)
          unfold f_rest
          split
          · exact h.flag hc (by omega)
          · split
            · exact h.flag hc (by omega)
            · exact h
set_option maxRecDepth 100000 in
set_option maxHeartbeats 4000000 in
theorem call_96 {M : dM} {R : pM} {c n0 : Nat} (hS : Sf M) (hc : c < 24) (x : Int32) (q1 : ¬ (¬ x < 10 ∧ ¬ 34 ≤ x)) (q2 : ¬ (¬ x < 40 ∧ ¬ 44 ≤ x)) (q3 : ¬ x = 50) (q4 : ¬ (¬ x < 60 ∧ ¬ 64 ≤ x)) : PW kX4_call false n0 (fun v m9 => v = none ∧ m9 = SM (f_call M c x) ++ R) (fun _ _ => False) 96 [some (.ref 0), some (.ref (2 + c)), some (.int x)] [] (SM M ++ R) 0 0 := by
  refine PW.iload_n (i := 2) dX4_call_96 rfl rfl ?_
  refine PW.bipush (v := 51) dX4_call_97 (by decide) ?_
  refine PW.icmp_eq (tgt := 108) dX4_call_99 (by decide) (fun h99 => ?_) (fun h99 => ?_)
  · refine PW.aload_n (i := 1) dX4_call_108 rfl rfl ?_
    refine PW.iload_n (i := 2) dX4_call_109 rfl rfl ?_
    refine PW.bipush (v := 51) dX4_call_110 (by decide) ?_
    refine PW.icmp_ne (tgt := 119) dX4_call_112 (by decide) (fun h112 => absurd h112 (fun q => q h99)) (fun _ => ?_)
    refine PW.iconst (v := 1) dX4_call_115 (by decide) ?_
    refine PW.goto (tgt := 120) dX4_call_116 (by decide) ?_
    refine PW.putf FX4_call_182 (Fw_2_9 _) dX4_call_120 (sm_line hc) (Nat.le_of_ble_eq_true rfl) (fun _ => rfl) (fun _ => rfl) (pu_line hc (by decide) (by decide)) ?_
    refine PW.aload_n (i := 1) dX4_call_123 rfl rfl ?_
    refine PW.iconst (v := 5) dX4_call_124 (by decide) ?_
    refine PW.aload_n (i := 0) dX4_call_125 rfl rfl ?_
    refine PW.getf FX4_call_75 dX4_call_126 sm_desk rfl ?_
    refine PW.callV (k := kX4_call) (n := 2) (c_enter hc _ _) dX4_call_129 gX4_call_X2_enter rfl hd_X2_enter rfl ⟨by decide, by decide⟩ ⟨rfl, rfl⟩ (Nat.le_of_ble_eq_true rfl) ⟨by decide, by decide⟩ (sm_line hc) (by decide) rfl rfl (fun v m9 hp => ?_) (fun _ _ hx => hx.elim)
    obtain ⟨rfl, rfl⟩ := hp
    exact PW.vret dX4_call_132 rfl ⟨rfl, by rw [f_call, if_neg q1, if_neg q2, if_neg q3, if_neg q4, f_rest, if_pos h99]⟩ (by decide) (by decide)
  · refine PW.iload_n (i := 2) dX4_call_102 rfl rfl ?_
    refine PW.bipush (v := 52) dX4_call_103 (by decide) ?_
    refine PW.icmp_ne (tgt := 123) dX4_call_105 (by decide) (fun h105 => ?_) (fun h105 => ?_)
    · refine PW.aload_n (i := 1) dX4_call_123 rfl rfl ?_
      refine PW.iconst (v := 5) dX4_call_124 (by decide) ?_
      refine PW.aload_n (i := 0) dX4_call_125 rfl rfl ?_
      refine PW.getf FX4_call_75 dX4_call_126 sm_desk rfl ?_
      refine PW.callV (k := kX4_call) (n := 2) (c_enter hc _ _) dX4_call_129 gX4_call_X2_enter rfl hd_X2_enter rfl ⟨by decide, by decide⟩ ⟨rfl, rfl⟩ (Nat.le_of_ble_eq_true rfl) ⟨by decide, by decide⟩ (sm_line hc) (by decide) rfl rfl (fun v m9 hp => ?_) (fun _ _ hx => hx.elim)
      obtain ⟨rfl, rfl⟩ := hp
      first | exact PW.vret dX4_call_132 rfl ⟨rfl, by rw [f_call, if_neg q1, if_neg q2, if_neg q3, if_neg q4, f_rest, if_neg h99, if_neg h105]⟩ (by decide) (by decide) | exact PW.vret dX4_call_132 rfl ⟨rfl, by rw [f_call, if_neg q1, if_neg q2, if_neg q3, if_neg q4, f_rest, if_neg h99, if_pos h105]⟩ (by decide) (by decide)
    · refine PW.aload_n (i := 1) dX4_call_108 rfl rfl ?_
      refine PW.iload_n (i := 2) dX4_call_109 rfl rfl ?_
      refine PW.bipush (v := 51) dX4_call_110 (by decide) ?_
      refine PW.icmp_ne (tgt := 119) dX4_call_112 (by decide) (fun _ => ?_) (fun h112 => absurd h112 (by rw [h105]; decide))
      refine PW.iconst (v := 0) dX4_call_119 (by decide) ?_
      refine PW.putf FX4_call_182 (Fw_2_9 _) dX4_call_120 (sm_line hc) (Nat.le_of_ble_eq_true rfl) (fun _ => rfl) (fun _ => rfl) (pu_line hc (by decide) (by decide)) ?_
      refine PW.aload_n (i := 1) dX4_call_123 rfl rfl ?_
      refine PW.iconst (v := 5) dX4_call_124 (by decide) ?_
      refine PW.aload_n (i := 0) dX4_call_125 rfl rfl ?_
      refine PW.getf FX4_call_75 dX4_call_126 sm_desk rfl ?_
      refine PW.callV (k := kX4_call) (n := 2) (c_enter hc _ _) dX4_call_129 gX4_call_X2_enter rfl hd_X2_enter rfl ⟨by decide, by decide⟩ ⟨rfl, rfl⟩ (Nat.le_of_ble_eq_true rfl) ⟨by decide, by decide⟩ (sm_line hc) (by decide) rfl rfl (fun v m9 hp => ?_) (fun _ _ hx => hx.elim)
      obtain ⟨rfl, rfl⟩ := hp
      first | exact PW.vret dX4_call_132 rfl ⟨rfl, by rw [f_call, if_neg q1, if_neg q2, if_neg q3, if_neg q4, f_rest, if_neg h99, if_neg h105]⟩ (by decide) (by decide) | exact PW.vret dX4_call_132 rfl ⟨rfl, by rw [f_call, if_neg q1, if_neg q2, if_neg q3, if_neg q4, f_rest, if_neg h99, if_pos h105]⟩ (by decide) (by decide)
set_option maxRecDepth 100000 in
set_option maxHeartbeats 4000000 in
theorem call_72 {M : dM} {R : pM} {c n0 : Nat} (hS : Sf M) (hc : c < 24) (x : Int32) (q1 : ¬ (¬ x < 10 ∧ ¬ 34 ≤ x)) (q2 : ¬ (¬ x < 40 ∧ ¬ 44 ≤ x)) (q3 : ¬ x = 50) : PW kX4_call false n0 (fun v m9 => v = none ∧ m9 = SM (f_call M c x) ++ R) (fun _ _ => False) 72 [some (.ref 0), some (.ref (2 + c)), some (.int x)] [] (SM M ++ R) 0 0 := by
  refine PW.iload_n (i := 2) dX4_call_72 rfl rfl ?_
  refine PW.bipush (v := 60) dX4_call_73 (by decide) ?_
  refine PW.icmp_lt (tgt := 96) dX4_call_75 (by decide) (fun h75 => ?_) (fun h75 => ?_)
  · exact call_96 hS hc x q1 q2 q3 (fun q => q.1 h75)
  · refine PW.iload_n (i := 2) dX4_call_78 rfl rfl ?_
    refine PW.bipush (v := 64) dX4_call_79 (by decide) ?_
    refine PW.icmp_ge (tgt := 96) dX4_call_81 (by decide) (fun h81 => ?_) (fun h81 => ?_)
    · exact call_96 hS hc x q1 q2 q3 (fun q => q.2 h81)
    · obtain ⟨j, g1, g2, ej⟩ := rng (a := 60) (b := 64) (by decide) (by decide) h75 h81
      have hj9 : j - 60 < 4 := by omega
      have ejx : x - 60 = nI (j - 60) := by rw [ej]; exact pk_sub (b := 60) g1
      have ejc : (x - 60).toNatClampNeg = j - 60 := by rw [ejx, nI_clamp (by omega)]
      refine PW.aload_n (i := 0) dX4_call_84 rfl rfl ?_
      refine PW.aload_n (i := 1) dX4_call_85 rfl rfl ?_
      refine PW.iload_n (i := 2) dX4_call_86 rfl rfl ?_
      refine PW.bipush (v := 60) dX4_call_87 (by decide) ?_
      refine PW.isub dX4_call_89 ?_
      rw [ejx]
      refine PW.callV (k := kX4_call) (n := 2) (c_takeParked hS hc hj9) dX4_call_90 gX4_call_X4_takeParked rfl hd_X4_takeParked rfl ⟨by decide, by decide⟩ ⟨rfl, rfl⟩ (Nat.le_of_ble_eq_true rfl) ⟨by decide, by decide⟩ sm_desk (by decide) rfl rfl (fun v m9 hp => ?_) (fun _ _ hx => hx.elim)
      obtain ⟨rfl, rfl⟩ := hp
      refine PW.goto (tgt := 132) dX4_call_93 (by decide) ?_
      exact PW.vret dX4_call_132 rfl ⟨rfl, by rw [f_call, if_neg q1, if_neg q2, if_neg q3, if_pos ⟨h75, h81⟩, ejc]⟩ (by decide) (by decide)
set_option maxRecDepth 100000 in
set_option maxHeartbeats 4000000 in
theorem call_58 {M : dM} {R : pM} {c n0 : Nat} (hS : Sf M) (hc : c < 24) (x : Int32) (q1 : ¬ (¬ x < 10 ∧ ¬ 34 ≤ x)) (q2 : ¬ (¬ x < 40 ∧ ¬ 44 ≤ x)) : PW kX4_call false n0 (fun v m9 => v = none ∧ m9 = SM (f_call M c x) ++ R) (fun _ _ => False) 58 [some (.ref 0), some (.ref (2 + c)), some (.int x)] [] (SM M ++ R) 0 0 := by
  refine PW.iload_n (i := 2) dX4_call_58 rfl rfl ?_
  refine PW.bipush (v := 50) dX4_call_59 (by decide) ?_
  refine PW.icmp_ne (tgt := 72) dX4_call_61 (by decide) (fun h61 => ?_) (fun h61 => ?_)
  · exact call_72 hS hc x q1 q2 h61
  · refine PW.aload_n (i := 0) dX4_call_64 rfl rfl ?_
    refine PW.aload_n (i := 1) dX4_call_65 rfl rfl ?_
    refine PW.callV (k := kX4_call) (n := 1) (c_pickUp hS hc) dX4_call_66 gX4_call_X4_pickUp rfl hd_X4_pickUp rfl ⟨by decide, by decide⟩ ⟨rfl, rfl⟩ (Nat.le_of_ble_eq_true rfl) ⟨by decide, by decide⟩ sm_desk (by decide) rfl rfl (fun v m9 hp => ?_) (fun _ _ hx => hx.elim)
    obtain ⟨rfl, rfl⟩ := hp
    refine PW.goto (tgt := 132) dX4_call_69 (by decide) ?_
    exact PW.vret dX4_call_132 rfl ⟨rfl, by rw [f_call, if_neg q1, if_neg q2, if_pos h61]⟩ (by decide) (by decide)
set_option maxRecDepth 100000 in
set_option maxHeartbeats 4000000 in
theorem call_29 {M : dM} {R : pM} {c n0 : Nat} (hS : Sf M) (hc : c < 24) (x : Int32) (q1 : ¬ (¬ x < 10 ∧ ¬ 34 ≤ x)) : PW kX4_call false n0 (fun v m9 => v = none ∧ m9 = SM (f_call M c x) ++ R) (fun _ _ => False) 29 [some (.ref 0), some (.ref (2 + c)), some (.int x)] [] (SM M ++ R) 0 0 := by
  refine PW.iload_n (i := 2) dX4_call_29 rfl rfl ?_
  refine PW.bipush (v := 40) dX4_call_30 (by decide) ?_
  refine PW.icmp_lt (tgt := 58) dX4_call_32 (by decide) (fun h32 => ?_) (fun h32 => ?_)
  · exact call_58 hS hc x q1 (fun q => q.1 h32)
  · refine PW.iload_n (i := 2) dX4_call_35 rfl rfl ?_
    refine PW.bipush (v := 44) dX4_call_36 (by decide) ?_
    refine PW.icmp_ge (tgt := 58) dX4_call_38 (by decide) (fun h38 => ?_) (fun h38 => ?_)
    · exact call_58 hS hc x q1 (fun q => q.2 h38)
    · obtain ⟨j, g1, g2, ej⟩ := rng (a := 40) (b := 44) (by decide) (by decide) h32 h38
      have hj9 : j - 40 < 4 := by omega
      have ejx : x - 40 = nI (j - 40) := by rw [ej]; exact pk_sub (b := 40) g1
      have ejc : (x - 40).toNatClampNeg = j - 40 := by rw [ejx, nI_clamp (by omega)]
      refine PW.aload_n (i := 0) dX4_call_41 rfl rfl ?_
      refine PW.aload_n (i := 1) dX4_call_42 rfl rfl ?_
      refine PW.aload_n (i := 0) dX4_call_43 rfl rfl ?_
      refine PW.getf FX4_call_27 dX4_call_44 sm_desk rfl ?_
      refine PW.iload_n (i := 2) dX4_call_47 rfl rfl ?_
      refine PW.bipush (v := 40) dX4_call_48 (by decide) ?_
      refine PW.isub dX4_call_50 ?_
      refine PW.aald dX4_call_51 sm_grs (by decide) (fun _ => rfl) rfl ejx (Nat.lt_trans hj9 (by decide)) (grs_get _ hj9) ?_
      refine PW.callV (k := kX4_call) (n := 2) (c_callGroup hS hc hj9) dX4_call_52 gX4_call_X4_callGroup rfl hd_X4_callGroup rfl ⟨by decide, by decide⟩ ⟨rfl, rfl⟩ (Nat.le_of_ble_eq_true rfl) ⟨by decide, by decide⟩ sm_desk (by decide) rfl rfl (fun v m9 hp => ?_) (fun _ _ hx => hx.elim)
      obtain ⟨rfl, rfl⟩ := hp
      refine PW.goto (tgt := 132) dX4_call_55 (by decide) ?_
      exact PW.vret dX4_call_132 rfl ⟨rfl, by rw [f_call, if_neg q1, if_pos ⟨h32, h38⟩, ejc]⟩ (by decide) (by decide)
set_option maxRecDepth 100000 in
set_option maxHeartbeats 4000000 in
theorem c_call {M : dM} {R : pM} {c : Nat} (hS : Sf M) (hc : c < 24) (x : Int32) (l9 : Launch) : pMet l9 yX4_call kX4_call false [.ref 0, .ref (2 + c), .int x] (SM M ++ R) (fun v m9 => v = none ∧ m9 = SM (f_call M c x) ++ R) (fun _ _ => False) := by
  refine pMet.of (by decide) rfl rfl rfl (by intro v hv; simp only [List.mem_cons, List.not_mem_nil, or_false] at hv; rcases hv with rfl | rfl | rfl <;> rfl) (Nat.le_of_ble_eq_true rfl) ?_
  show PW _ _ _ _ _ 0 [some (.ref 0), some (.ref (2 + c)), some (.int x)] [] (SM M ++ R) 0 0
  refine PW.iload_n (i := 2) dX4_call_0 rfl rfl ?_
  refine PW.bipush (v := 10) dX4_call_1 (by decide) ?_
  refine PW.icmp_lt (tgt := 29) dX4_call_3 (by decide) (fun h3 => ?_) (fun h3 => ?_)
  · exact call_29 hS hc x (fun q => q.1 h3)
  · refine PW.iload_n (i := 2) dX4_call_6 rfl rfl ?_
    refine PW.bipush (v := 34) dX4_call_7 (by decide) ?_
    refine PW.icmp_ge (tgt := 29) dX4_call_9 (by decide) (fun h9 => ?_) (fun h9 => ?_)
    · exact call_29 hS hc x (fun q => q.2 h9)
    · obtain ⟨j, g1, g2, ej⟩ := rng (a := 10) (b := 34) (by decide) (by decide) h3 h9
      have hj9 : j - 10 < 24 := by omega
      have ejx : x - 10 = nI (j - 10) := by rw [ej]; exact pk_sub (b := 10) g1
      have ejc : (x - 10).toNatClampNeg = j - 10 := by rw [ejx, nI_clamp (by omega)]
      refine PW.aload_n (i := 0) dX4_call_12 rfl rfl ?_
      refine PW.aload_n (i := 1) dX4_call_13 rfl rfl ?_
      refine PW.aload_n (i := 0) dX4_call_14 rfl rfl ?_
      refine PW.getf FX4_call_11 dX4_call_15 sm_desk rfl ?_
      refine PW.iload_n (i := 2) dX4_call_18 rfl rfl ?_
      refine PW.bipush (v := 10) dX4_call_19 (by decide) ?_
      refine PW.isub dX4_call_21 ?_
      refine PW.aald dX4_call_22 sm_lines (by decide) (fun _ => rfl) rfl ejx (Nat.lt_trans hj9 (by decide)) (lnA_get hj9) ?_
      refine PW.callV (k := kX4_call) (n := 2) (c_callLine hc hj9) dX4_call_23 gX4_call_X4_callLine rfl hd_X4_callLine rfl ⟨by decide, by decide⟩ ⟨rfl, rfl⟩ (Nat.le_of_ble_eq_true rfl) ⟨by decide, by decide⟩ sm_desk (by decide) rfl rfl (fun v m9 hp => ?_) (fun _ _ hx => hx.elim)
      obtain ⟨rfl, rfl⟩ := hp
      refine PW.goto (tgt := 132) dX4_call_26 (by decide) ?_
      exact PW.vret dX4_call_132 rfl ⟨rfl, by rw [f_call, if_pos ⟨h3, h9⟩, ejc]⟩ (by decide) (by decide)
def edL (M : dM) : Nat → Nat → Int32 → Int32
  | 0, _, e => e
  | n + 1, l, e => edL M n (l + 1) (if f_due M l < e then f_due M l else e)
def f_ed (M : dM) : Int32 := edL M 24 0 2147483647
def f_runOut (M : dM) (l : Nat) : dM := if M l 1 = 1 ∨ M l 1 = 2 then f_enter M l 9 (M 39 5) else f_enter (f_leave M l) l 5 (f_leave M l 39 5)
theorem Sf.runOut {M : dM} {l : Nat} (h : Sf M) (hl : l < 24) : Sf (f_runOut M l) := by
  unfold f_runOut
  split
  · exact h.enter hl (by decide) (by decide) (by decide) (by decide)
  · exact (h.leave hl).enter hl (by decide) (by decide) (by decide) (by decide)
set_option maxRecDepth 100000 in
set_option maxHeartbeats 4000000 in
theorem ed_loop {M : dM} {R : pM} {n0 : Nat} : ∀ (n s : Nat) (e : Int32), s + n = 24 → edL M n s e = f_ed M → PW kX4_earliestDue false n0 (fun v m9 => v = some (.int (f_ed M)) ∧ m9 = SM M ++ R) (fun _ _ => False) 6 [some (.ref 0), some (.int e), some (.int (nI s))] [] (SM M ++ R) 0 0 := by
  intro n
  induction n with
  | zero =>
    intro s e hs hr
    refine PW.iload_n (i := 2) dX4_earliestDue_6 rfl rfl ?_
    refine PW.bipush (v := 24) dX4_earliestDue_7 (by decide) ?_
    refine PW.icmp_ge (tgt := 32) dX4_earliestDue_9 (by decide) (fun _ => ?_) (fun h9 => absurd (nI_le (a := 24) (b := s) (by omega) (by omega)) h9)
    refine PW.iload_n (i := 1) dX4_earliestDue_32 rfl rfl ?_
    exact PW.iret dX4_earliestDue_33 rfl ⟨by rw [← hr]; rfl, rfl⟩ (by decide) (by decide)
  | succ n ih =>
    intro s e hs hr
    refine PW.iload_n (i := 2) dX4_earliestDue_6 rfl rfl ?_
    refine PW.bipush (v := 24) dX4_earliestDue_7 (by decide) ?_
    refine PW.icmp_ge (tgt := 32) dX4_earliestDue_9 (by decide) (fun h9 => absurd h9 (nI_ge (a := s) (b := 24) (by omega) (by decide))) (fun _ => ?_)
    have hs9 : s < 24 := by omega
    refine PW.iload_n (i := 1) dX4_earliestDue_12 rfl rfl ?_
    refine PW.aload_n (i := 0) dX4_earliestDue_13 rfl rfl ?_
    refine PW.getf FX4_earliestDue_11 dX4_earliestDue_14 sm_desk rfl ?_
    refine PW.iload_n (i := 2) dX4_earliestDue_17 rfl rfl ?_
    refine PW.aald dX4_earliestDue_18 sm_lines (by decide) (fun _ => rfl) rfl rfl (Nat.lt_trans hs9 (by decide)) (lnA_get hs9) ?_
    refine PW.callV (k := kX4_earliestDue) (n := 0) (c_due hs9) dX4_earliestDue_19 gX4_earliestDue_X2_due rfl hd_X2_due rfl ⟨by decide, by decide⟩ ⟨rfl, rfl⟩ (Nat.le_of_ble_eq_true rfl) ⟨by decide, by decide⟩ (sm_line hs9) (by decide) rfl rfl (fun v m9 hp => ?_) (fun _ _ hx => hx.elim)
    obtain ⟨rfl, rfl⟩ := hp
    refine PW.mmin dX4_earliestDue_22 (by decide +kernel) (by decide +kernel) (by decide +kernel) (by decide +kernel) (by decide) (Nat.le_of_ble_eq_true rfl) (by decide) (by decide) ?_
    refine PW.istore_n (i := 1) dX4_earliestDue_25 rfl (by decide) rfl ?_
    refine PW.iinc (v := nI (s + 1)) dX4_earliestDue_26 rfl (nI_1 s) (by decide) rfl ?_
    refine PW.goto (tgt := 6) dX4_earliestDue_29 (by decide) ?_
    exact ih (s + 1) _ (by omega) (by rw [← hr, edL])
set_option maxRecDepth 100000 in
set_option maxHeartbeats 4000000 in
theorem c_earliestDue {M : dM} {R : pM} (l9 : Launch) : pMet l9 yX4_earliestDue kX4_earliestDue false [.ref 0] (SM M ++ R) (fun v m9 => v = some (.int (f_ed M)) ∧ m9 = SM (M) ++ R) (fun _ _ => False) := by
  refine pMet.of (by decide) rfl rfl rfl (by intro v hv; simp only [List.mem_cons, List.not_mem_nil, or_false] at hv; subst hv; rfl) (Nat.le_of_ble_eq_true rfl) ?_
  show PW _ _ _ _ _ 0 [some (.ref 0), none, none] [] (SM M ++ R) 0 0
  refine PW.ldcw (v := 2147483647) dX4_earliestDue_0 (by decide +kernel) ?_
  refine PW.istore_n (i := 1) dX4_earliestDue_3 rfl (by decide) rfl ?_
  refine PW.iconst (v := 0) dX4_earliestDue_4 (by decide) ?_
  refine PW.istore_n (i := 2) dX4_earliestDue_5 rfl (by decide) rfl ?_
  exact ed_loop 24 0 _ rfl rfl
set_option maxRecDepth 100000 in
set_option maxHeartbeats 4000000 in
theorem c_runOut {M : dM} {R : pM} {l : Nat} (hS : Sf M) (hl : l < 24) (h6 : ¬ M l 1 = 6) (l9 : Launch) : pMet l9 yX4_runOut kX4_runOut false [.ref 0, .ref (2 + l)] (SM M ++ R) (fun v m9 => v = none ∧ m9 = SM (f_runOut M l) ++ R) (fun _ _ => False) := by
  refine pMet.of (by decide) rfl rfl rfl (by intro v hv; simp only [List.mem_cons, List.not_mem_nil, or_false] at hv; rcases hv with rfl | rfl <;> rfl) (Nat.le_of_ble_eq_true rfl) ?_
  show PW _ _ _ _ _ 0 [some (.ref 0), some (.ref (2 + l))] [] (SM M ++ R) 0 0
  refine PW.aload_n (i := 1) dX4_runOut_0 rfl rfl ?_
  refine PW.getf FX4_runOut_64 dX4_runOut_1 (sm_line hl) rfl ?_
  refine PW.iconst (v := 1) dX4_runOut_4 (by decide) ?_
  refine PW.icmp_eq (tgt := 16) dX4_runOut_5 (by decide) (fun h5 => ?_) (fun h5 => ?_)
  · refine PW.aload_n (i := 1) dX4_runOut_16 rfl rfl ?_
    refine PW.bipush (v := 9) dX4_runOut_17 (by decide) ?_
    refine PW.aload_n (i := 0) dX4_runOut_19 rfl rfl ?_
    refine PW.getf FX4_runOut_75 dX4_runOut_20 sm_desk rfl ?_
    refine PW.callV (k := kX4_runOut) (n := 2) (c_enter hl _ _) dX4_runOut_23 gX4_runOut_X2_enter rfl hd_X2_enter rfl ⟨by decide, by decide⟩ ⟨rfl, rfl⟩ (Nat.le_of_ble_eq_true rfl) ⟨by decide, by decide⟩ (sm_line hl) (by decide) rfl rfl (fun v m9 hp => ?_) (fun _ _ hx => hx.elim)
    obtain ⟨rfl, rfl⟩ := hp
    refine PW.goto (tgt := 43) dX4_runOut_26 (by decide) ?_
    first | exact PW.vret dX4_runOut_43 rfl ⟨rfl, by rw [f_runOut, if_pos (Or.inl h5)]⟩ (by decide) (by decide) | exact PW.vret dX4_runOut_43 rfl ⟨rfl, by rw [f_runOut, if_pos (Or.inr h13)]⟩ (by decide) (by decide) | exact PW.vret dX4_runOut_43 rfl ⟨rfl, by rw [f_runOut, if_neg (fun q => q.elim h5 h13)]⟩ (by decide) (by decide)
  · refine PW.aload_n (i := 1) dX4_runOut_8 rfl rfl ?_
    refine PW.getf FX4_runOut_64 dX4_runOut_9 (sm_line hl) rfl ?_
    refine PW.iconst (v := 2) dX4_runOut_12 (by decide) ?_
    refine PW.icmp_ne (tgt := 29) dX4_runOut_13 (by decide) (fun h13 => ?_) (fun h13 => ?_)
    · refine PW.aload_n (i := 0) dX4_runOut_29 rfl rfl ?_
      refine PW.aload_n (i := 1) dX4_runOut_30 rfl rfl ?_
      refine PW.callV (k := kX4_runOut) (n := 1) (c_leave hS hl (fun q => absurd q h6)) dX4_runOut_31 gX4_runOut_X4_leave rfl hd_X4_leave rfl ⟨by decide, by decide⟩ ⟨rfl, rfl⟩ (Nat.le_of_ble_eq_true rfl) ⟨by decide, by decide⟩ sm_desk (by decide) rfl rfl (fun v m9 hp => ?_) (fun _ _ hx => hx.elim)
      obtain ⟨rfl, rfl⟩ := hp
      refine PW.aload_n (i := 1) dX4_runOut_34 rfl rfl ?_
      refine PW.iconst (v := 5) dX4_runOut_35 (by decide) ?_
      refine PW.aload_n (i := 0) dX4_runOut_36 rfl rfl ?_
      refine PW.getf FX4_runOut_75 dX4_runOut_37 sm_desk rfl ?_
      refine PW.callV (k := kX4_runOut) (n := 2) (c_enter hl _ _) dX4_runOut_40 gX4_runOut_X2_enter rfl hd_X2_enter rfl ⟨by decide, by decide⟩ ⟨rfl, rfl⟩ (Nat.le_of_ble_eq_true rfl) ⟨by decide, by decide⟩ (sm_line hl) (by decide) rfl rfl (fun v m9 hp => ?_) (fun _ _ hx => hx.elim)
      obtain ⟨rfl, rfl⟩ := hp
      first | exact PW.vret dX4_runOut_43 rfl ⟨rfl, by rw [f_runOut, if_pos (Or.inl h5)]⟩ (by decide) (by decide) | exact PW.vret dX4_runOut_43 rfl ⟨rfl, by rw [f_runOut, if_pos (Or.inr h13)]⟩ (by decide) (by decide) | exact PW.vret dX4_runOut_43 rfl ⟨rfl, by rw [f_runOut, if_neg (fun q => q.elim h5 h13)]⟩ (by decide) (by decide)
    · refine PW.aload_n (i := 1) dX4_runOut_16 rfl rfl ?_
      refine PW.bipush (v := 9) dX4_runOut_17 (by decide) ?_
      refine PW.aload_n (i := 0) dX4_runOut_19 rfl rfl ?_
      refine PW.getf FX4_runOut_75 dX4_runOut_20 sm_desk rfl ?_
      refine PW.callV (k := kX4_runOut) (n := 2) (c_enter hl _ _) dX4_runOut_23 gX4_runOut_X2_enter rfl hd_X2_enter rfl ⟨by decide, by decide⟩ ⟨rfl, rfl⟩ (Nat.le_of_ble_eq_true rfl) ⟨by decide, by decide⟩ (sm_line hl) (by decide) rfl rfl (fun v m9 hp => ?_) (fun _ _ hx => hx.elim)
      obtain ⟨rfl, rfl⟩ := hp
      refine PW.goto (tgt := 43) dX4_runOut_26 (by decide) ?_
      first | exact PW.vret dX4_runOut_43 rfl ⟨rfl, by rw [f_runOut, if_pos (Or.inl h5)]⟩ (by decide) (by decide) | exact PW.vret dX4_runOut_43 rfl ⟨rfl, by rw [f_runOut, if_pos (Or.inr h13)]⟩ (by decide) (by decide) | exact PW.vret dX4_runOut_43 rfl ⟨rfl, by rw [f_runOut, if_neg (fun q => q.elim h5 h13)]⟩ (by decide) (by decide)
def laL : Nat → Nat → dM → dM
  | 0, _, M => M
  | n + 1, l, M => if M 39 5 < f_due M l then laL n (l + 1) M else laL n (l + 1) (f_camps (f_runOut M l))
def f_look (M : dM) : dM := laL 24 0 M
theorem due6 {M : dM} {l : Nat} (ht : M 39 5 < 2147483647) (h : ¬ M 39 5 < f_due M l) : ¬ M l 1 = 6 := by
  intro q
  apply h
  rw [f_due, if_neg (by rw [q]; decide), if_neg (by rw [q]; decide), if_neg (by rw [q]; decide)]
  exact ht
