abbrev kX4_unitsOf : pK := (RX4, cX4_unitsOf, 2, wsX4_unitsOf, { frames := 0, cells := 0, slots := 0, locals := 0 }, (some .int), [], 0, 0, pNo)
theorem FX4_unitsOf_75 : pF kX4_unitsOf.Ts kX4_unitsOf.own 75 4 5 := ⟨_, _, _, by decide, rfl, by decide, by decide +kernel, by decide +kernel⟩
theorem FX4_unitsOf_270 : pF kX4_unitsOf.Ts kX4_unitsOf.own 270 2 2 := ⟨_, _, _, by decide, rfl, by decide, by decide +kernel, by decide +kernel⟩
abbrev kX4_beginTalk : pK := (RX4, cX4_beginTalk, 4, wsX4_beginTalk, { frames := 2, cells := 0, slots := 0, locals := 60 }, none, [], 0, 0, pNo)
theorem FX4_beginTalk_115 : pF kX4_beginTalk.Ts kX4_beginTalk.own 115 2 0 := ⟨_, _, _, by decide, rfl, by decide, by decide +kernel, by decide +kernel⟩
theorem FX4_beginTalk_75 : pF kX4_beginTalk.Ts kX4_beginTalk.own 75 4 5 := ⟨_, _, _, by decide, rfl, by decide, by decide +kernel, by decide +kernel⟩
theorem FX4_beginTalk_172 : pF kX4_beginTalk.Ts kX4_beginTalk.own 172 2 7 := ⟨_, _, _, by decide, rfl, by decide, by decide +kernel, by decide +kernel⟩
abbrev kX4_stopRinging : pK := (RX4, cX4_stopRinging, 4, wsX4_stopRinging, { frames := 2, cells := 0, slots := 0, locals := 60 }, none, [], 0, 0, pNo)
theorem FX4_stopRinging_11 : pF kX4_stopRinging.Ts kX4_stopRinging.own 11 4 0 := ⟨_, _, _, by decide, rfl, by decide, by decide +kernel, by decide +kernel⟩
theorem FX4_stopRinging_115 : pF kX4_stopRinging.Ts kX4_stopRinging.own 115 2 0 := ⟨_, _, _, by decide, rfl, by decide, by decide +kernel, by decide +kernel⟩
theorem FX4_stopRinging_21 : pF kX4_stopRinging.Ts kX4_stopRinging.own 21 4 1 := ⟨_, _, _, by decide, rfl, by decide, by decide +kernel, by decide +kernel⟩
theorem FX4_stopRinging_210 : pF kX4_stopRinging.Ts kX4_stopRinging.own 210 2 4 := ⟨_, _, _, by decide, rfl, by decide, by decide +kernel, by decide +kernel⟩
theorem FX4_stopRinging_75 : pF kX4_stopRinging.Ts kX4_stopRinging.own 75 4 5 := ⟨_, _, _, by decide, rfl, by decide, by decide +kernel, by decide +kernel⟩
abbrev kX4_answer : pK := (RX4, cX4_answer, 3, wsX4_answer, { frames := 3, cells := 0, slots := 0, locals := 90 }, none, [], 0, 0, pNo)
theorem FX4_answer_11 : pF kX4_answer.Ts kX4_answer.own 11 4 0 := ⟨_, _, _, by decide, rfl, by decide, by decide +kernel, by decide +kernel⟩
theorem FX4_answer_106 : pF kX4_answer.Ts kX4_answer.own 106 2 3 := ⟨_, _, _, by decide, rfl, by decide, by decide +kernel, by decide +kernel⟩
theorem FX4_answer_210 : pF kX4_answer.Ts kX4_answer.own 210 2 4 := ⟨_, _, _, by decide, rfl, by decide, by decide +kernel, by decide +kernel⟩
abbrev kX4_firstRinging : pK := (RX4, cX4_firstRinging, 6, wsX4_firstRinging, { frames := 0, cells := 0, slots := 0, locals := 0 }, (some (.object "ExchangeDesk$Line")), [], 0, 0, pNo)
theorem FX4_firstRinging_11 : pF kX4_firstRinging.Ts kX4_firstRinging.own 11 4 0 := ⟨_, _, _, by decide, rfl, by decide, by decide +kernel, by decide +kernel⟩
theorem FX4_firstRinging_64 : pF kX4_firstRinging.Ts kX4_firstRinging.own 64 2 1 := ⟨_, _, _, by decide, rfl, by decide, by decide +kernel, by decide +kernel⟩
theorem FX4_firstRinging_270 : pF kX4_firstRinging.Ts kX4_firstRinging.own 270 2 2 := ⟨_, _, _, by decide, rfl, by decide, by decide +kernel, by decide +kernel⟩
abbrev kX4_talkByNewPath : pK := (RX4, cX4_talkByNewPath, 4, wsX4_talkByNewPath, { frames := 3, cells := 0, slots := 0, locals := 90 }, (some .boolean), [], 0, 0, pNo)
theorem FX4_talkByNewPath_21 : pF kX4_talkByNewPath.Ts kX4_talkByNewPath.own 21 4 1 := ⟨_, _, _, by decide, rfl, by decide, by decide +kernel, by decide +kernel⟩
abbrev kX4_pickUp : pK := (RX4, cX4_pickUp, 4, wsX4_pickUp, { frames := 4, cells := 0, slots := 0, locals := 120 }, none, [], 0, 0, pNo)
theorem FX4_pickUp_115 : pF kX4_pickUp.Ts kX4_pickUp.own 115 2 0 := ⟨_, _, _, by decide, rfl, by decide, by decide +kernel, by decide +kernel⟩
theorem FX4_pickUp_75 : pF kX4_pickUp.Ts kX4_pickUp.own 75 4 5 := ⟨_, _, _, by decide, rfl, by decide, by decide +kernel, by decide +kernel⟩
theorem FX4_pickUp_11 : pF kX4_pickUp.Ts kX4_pickUp.own 11 4 0 := ⟨_, _, _, by decide, rfl, by decide, by decide +kernel, by decide +kernel⟩
theorem FX4_pickUp_106 : pF kX4_pickUp.Ts kX4_pickUp.own 106 2 3 := ⟨_, _, _, by decide, rfl, by decide, by decide +kernel, by decide +kernel⟩
abbrev kX4_takeParked : pK := (RX4, cX4_takeParked, 4, wsX4_takeParked, { frames := 4, cells := 0, slots := 0, locals := 120 }, none, [], 0, 0, pNo)
theorem FX4_takeParked_32 : pF kX4_takeParked.Ts kX4_takeParked.own 32 4 3 := ⟨_, _, _, by decide, rfl, by decide, by decide +kernel, by decide +kernel⟩
theorem FX4_takeParked_75 : pF kX4_takeParked.Ts kX4_takeParked.own 75 4 5 := ⟨_, _, _, by decide, rfl, by decide, by decide +kernel, by decide +kernel⟩
theorem FX4_takeParked_11 : pF kX4_takeParked.Ts kX4_takeParked.own 11 4 0 := ⟨_, _, _, by decide, rfl, by decide, by decide +kernel, by decide +kernel⟩
abbrev kX4_endTalk : pK := (RX4, cX4_endTalk, 5, wsX4_endTalk, { frames := 2, cells := 0, slots := 0, locals := 60 }, (some (.object "ExchangeDesk$Line")), [], 0, 0, pNo)
theorem FX4_endTalk_11 : pF kX4_endTalk.Ts kX4_endTalk.own 11 4 0 := ⟨_, _, _, by decide, rfl, by decide, by decide +kernel, by decide +kernel⟩
theorem FX4_endTalk_106 : pF kX4_endTalk.Ts kX4_endTalk.own 106 2 3 := ⟨_, _, _, by decide, rfl, by decide, by decide +kernel, by decide +kernel⟩
theorem FX4_endTalk_172 : pF kX4_endTalk.Ts kX4_endTalk.own 172 2 7 := ⟨_, _, _, by decide, rfl, by decide, by decide +kernel, by decide +kernel⟩
theorem FX4_endTalk_176 : pF kX4_endTalk.Ts kX4_endTalk.own 176 2 8 := ⟨_, _, _, by decide, rfl, by decide, by decide +kernel, by decide +kernel⟩
theorem FX4_endTalk_45 : pF kX4_endTalk.Ts kX4_endTalk.own 45 4 4 := ⟨_, _, _, by decide, rfl, by decide, by decide +kernel, by decide +kernel⟩
theorem FX4_endTalk_115 : pF kX4_endTalk.Ts kX4_endTalk.own 115 2 0 := ⟨_, _, _, by decide, rfl, by decide, by decide +kernel, by decide +kernel⟩
theorem FX4_endTalk_270 : pF kX4_endTalk.Ts kX4_endTalk.own 270 2 2 := ⟨_, _, _, by decide, rfl, by decide, by decide +kernel, by decide +kernel⟩
theorem FX4_endTalk_21 : pF kX4_endTalk.Ts kX4_endTalk.own 21 4 1 := ⟨_, _, _, by decide, rfl, by decide, by decide +kernel, by decide +kernel⟩
theorem FX4_endTalk_210 : pF kX4_endTalk.Ts kX4_endTalk.own 210 2 4 := ⟨_, _, _, by decide, rfl, by decide, by decide +kernel, by decide +kernel⟩
theorem FX4_endTalk_75 : pF kX4_endTalk.Ts kX4_endTalk.own 75 4 5 := ⟨_, _, _, by decide, rfl, by decide, by decide +kernel, by decide +kernel⟩
def f_units (M : dM) (l : Nat) : Int32 := 1 + (M 39 5 - M l 2) / 60
set_option maxRecDepth 100000 in
set_option maxHeartbeats 4000000 in
theorem c_unitsOf {M : dM} {R : pM} {l : Nat} (hl : l < 24) (l9 : Launch) : pMet l9 yX4_unitsOf kX4_unitsOf false [.ref 0, .ref (2 + l)] (SM M ++ R) (fun v m9 => v = some (.int (f_units M l)) ∧ m9 = SM (M) ++ R) (fun _ _ => False) := by
  refine pMet.of (by decide) rfl rfl rfl (by intro v hv; simp only [List.mem_cons, List.not_mem_nil, or_false] at hv; rcases hv with rfl | rfl <;> rfl) (Nat.le_of_ble_eq_true rfl) ?_
  show PW _ _ _ _ _ 0 [some (.ref 0), some (.ref (2 + l))] [] (SM M ++ R) 0 0
  refine PW.iconst (v := 1) dX4_unitsOf_0 (by decide) ?_
  refine PW.aload_n (i := 0) dX4_unitsOf_1 rfl rfl ?_
  refine PW.getf FX4_unitsOf_75 dX4_unitsOf_2 sm_desk rfl ?_
  refine PW.aload_n (i := 1) dX4_unitsOf_5 rfl rfl ?_
  refine PW.getf FX4_unitsOf_270 dX4_unitsOf_6 (sm_line hl) rfl ?_
  refine PW.isub dX4_unitsOf_9 ?_
  refine PW.bipush (v := 60) dX4_unitsOf_10 (by decide) ?_
  refine PW.idiv dX4_unitsOf_12 (by decide) ?_
  refine PW.iadd dX4_unitsOf_13 ?_
  exact PW.iret dX4_unitsOf_14 rfl ⟨rfl, rfl⟩ (by decide) (by decide)
def f_bt1 (M : dM) (c o : Nat) (b : Int32) : dM := f_talk M c (nI o) b (M 39 5)
def f_begin (M : dM) (c o : Nat) (b : Int32) : dM := up2 (f_talk (f_bt1 M c o b) o (nI c) b (f_bt1 M c o b 39 5)) c 7 1
set_option maxRecDepth 100000 in
set_option maxHeartbeats 4000000 in
theorem c_beginTalk {M : dM} {R : pM} {c o : Nat} (hc : c < 24) (ho : o < 24) (b : Int32) (l9 : Launch) : pMet l9 yX4_beginTalk kX4_beginTalk false [.ref 0, .ref (2 + c), .ref (2 + o), .int b] (SM M ++ R) (fun v m9 => v = none ∧ m9 = SM (f_begin M c o b) ++ R) (fun _ _ => False) := by
  refine pMet.of (by decide) rfl rfl rfl (by intro v hv; simp only [List.mem_cons, List.not_mem_nil, or_false] at hv; rcases hv with rfl | rfl | rfl | rfl <;> rfl) (Nat.le_of_ble_eq_true rfl) ?_
  show PW _ _ _ _ _ 0 [some (.ref 0), some (.ref (2 + c)), some (.ref (2 + o)), some (.int b)] [] (SM M ++ R) 0 0
  refine PW.aload_n (i := 1) dX4_beginTalk_0 rfl rfl ?_
  refine PW.aload_n (i := 2) dX4_beginTalk_1 rfl rfl ?_
  refine PW.getf FX4_beginTalk_115 dX4_beginTalk_2 (sm_line ho) rfl ?_
  refine PW.iload_n (i := 3) dX4_beginTalk_5 rfl rfl ?_
  refine PW.aload_n (i := 0) dX4_beginTalk_6 rfl rfl ?_
  refine PW.getf FX4_beginTalk_75 dX4_beginTalk_7 sm_desk rfl ?_
  refine PW.callV (k := kX4_beginTalk) (n := 3) (c_talk hc _ _ _) dX4_beginTalk_10 gX4_beginTalk_X2_talk rfl hd_X2_talk rfl ⟨by decide, by decide⟩ ⟨rfl, rfl⟩ (Nat.le_of_ble_eq_true rfl) ⟨by decide, by decide⟩ (sm_line hc) (by decide) rfl rfl (fun v m9 hp => ?_) (fun _ _ hx => hx.elim)
  obtain ⟨rfl, rfl⟩ := hp
  refine PW.aload_n (i := 2) dX4_beginTalk_13 rfl rfl ?_
  refine PW.aload_n (i := 1) dX4_beginTalk_14 rfl rfl ?_
  refine PW.getf FX4_beginTalk_115 dX4_beginTalk_15 (sm_line hc) rfl ?_
  refine PW.iload_n (i := 3) dX4_beginTalk_18 rfl rfl ?_
  refine PW.aload_n (i := 0) dX4_beginTalk_19 rfl rfl ?_
  refine PW.getf FX4_beginTalk_75 dX4_beginTalk_20 sm_desk rfl ?_
  refine PW.callV (k := kX4_beginTalk) (n := 3) (c_talk ho _ _ _) dX4_beginTalk_23 gX4_beginTalk_X2_talk rfl hd_X2_talk rfl ⟨by decide, by decide⟩ ⟨rfl, rfl⟩ (Nat.le_of_ble_eq_true rfl) ⟨by decide, by decide⟩ (sm_line ho) (by decide) rfl rfl (fun v m9 hp => ?_) (fun _ _ hx => hx.elim)
  obtain ⟨rfl, rfl⟩ := hp
  refine PW.aload_n (i := 1) dX4_beginTalk_26 rfl rfl ?_
  refine PW.iconst (v := 1) dX4_beginTalk_27 (by decide) ?_
  refine PW.putf FX4_beginTalk_172 (Fw_2_7 _) dX4_beginTalk_28 (sm_line hc) (Nat.le_of_ble_eq_true rfl) (fun _ => rfl) (fun _ => rfl) (pu_line hc (by decide) (by decide)) ?_
  exact PW.vret dX4_beginTalk_31 rfl ⟨rfl, rfl⟩ (by decide) (by decide)
theorem f_talk_r {M : dM} {l r j : Nat} {w b n : Int32} (h : r ≠ l) : f_talk M l w b n r j = M r j := by
  unfold f_talk
  rw [up2_r h, up2_r h, f_enter_r h]
theorem Sf.talk {M : dM} {l o t : Nat} {n : Int32} (h : Sf M) (hl : l < 24) (ho : o < 24) (ht : t < 8) : Sf (f_talk M l (nI o) (nI t) n) := by
  refine h.line (l := l) (fun r j hr _ => f_talk_r hr) hl ?_
  refine lnOK_ring (o := o) (t := t) (Or.inr ?_) ho ht ?_ ?_ ?_ ?_
  · simp [f_talk, up2, f_enter]
  · simp [f_talk, up2]
  · simp [f_talk, up2]
  · simp [f_talk, up2, f_enter]
  · have : f_talk M l (nI o) (nI t) n l 10 = M l 10 := by simp [f_talk, up2, f_enter]
    rw [this]
    exact (h.1 l hl).2.2.2.1
theorem Sf.flag {M : dM} {l j : Nat} {x : Int32} (h : Sf M) (hl : l < 24) (hj : j = 2 ∨ j = 6 ∨ j = 7 ∨ j = 8 ∨ j = 9) : Sf (up2 M l j x) := by
  refine h.line (l := l) (fun r j hr _ => up2_r hr) hl ?_
  have e : ∀ i, (i = 1 ∨ i = 3 ∨ i = 4 ∨ i = 5 ∨ i = 10) → up2 M l j x l i = M l i := fun i hi => up2_j (by omega)
  unfold lnOK
  rw [e 1 (by decide), e 3 (by decide), e 4 (by decide), e 5 (by decide), e 10 (by decide)]
  exact h.1 l hl
theorem Sf.begin {M : dM} {c o t : Nat} (h : Sf M) (hc : c < 24) (ho : o < 24) (ht : t < 8) : Sf (f_begin M c o (nI t)) := ((h.talk hc ho ht).talk ho hc ht).flag hc (by omega)
def f_hang (M : dM) (c l : Nat) : dM := f_enter (f_mark M c l (M l 4).toNatClampNeg (-1)) l 0 (f_mark M c l (M l 4).toNatClampNeg (-1) 39 5)
def spL (c : Nat) : Nat → Nat → dM → dM
  | 0, _, M => M
  | n + 1, l, M => if f_rfor M l (nI c) = true then spL c n (l + 1) (f_hang M c l) else spL c n (l + 1) M
def f_stop (M : dM) (c : Nat) : dM := spL c 24 0 M
theorem Sf.hang {M : dM} {c l : Nat} (h : Sf M) (hc : c < 24) (hl : l < 24) : Sf (f_hang M c l) := (h.mark hc hl).enter hl (by decide) (by decide) (by decide) (by decide)
theorem Sf_sp {c : Nat} (hc : c < 24) : ∀ (n l : Nat) (M : dM), l + n = 24 → Sf M → Sf (spL c n l M)
  | 0, _, _, _, h => h
  | n + 1, l, M, e, h => by
    rw [spL]
    split
    · exact Sf_sp hc n (l + 1) _ (by omega) (h.hang hc (by omega))
    · exact Sf_sp hc n (l + 1) _ (by omega) h
theorem Sf.stop {M : dM} {c : Nat} (h : Sf M) (hc : c < 24) : Sf (f_stop M c) := Sf_sp hc 24 0 M rfl h
set_option maxRecDepth 100000 in
set_option maxHeartbeats 4000000 in
theorem sp_loop {R : pM} {c n0 : Nat} {fin : dM} (hc : c < 24) : ∀ (n s : Nat) (M : dM) (w3 : Option Value), s + n = 24 → Sf M → spL c n s M = fin → PW kX4_stopRinging false n0 (fun v m9 => v = none ∧ m9 = SM fin ++ R) (fun _ _ => False) 2 [some (.ref 0), some (.ref (2 + c)), some (.int (nI s)), w3] [] (SM M ++ R) 0 0 := by
  intro n
  induction n with
  | zero =>
    intro s M w3 hs hS hr
    refine PW.iload_n (i := 2) dX4_stopRinging_2 rfl rfl ?_
    refine PW.bipush (v := 24) dX4_stopRinging_3 (by decide) ?_
    refine PW.icmp_ge (tgt := 54) dX4_stopRinging_5 (by decide) (fun _ => ?_) (fun h5 => absurd (nI_le (a := 24) (b := s) (by omega) (by omega)) h5)
    exact PW.vret dX4_stopRinging_54 rfl ⟨rfl, by rw [← hr]; rfl⟩ (by decide) (by decide)
  | succ n ih =>
    intro s M w3 hs hS hr
    refine PW.iload_n (i := 2) dX4_stopRinging_2 rfl rfl ?_
    refine PW.bipush (v := 24) dX4_stopRinging_3 (by decide) ?_
    refine PW.icmp_ge (tgt := 54) dX4_stopRinging_5 (by decide) (fun h5 => absurd h5 (nI_ge (a := s) (b := 24) (by omega) (by decide))) (fun _ => ?_)
    have hs9 : s < 24 := by omega
    refine PW.aload_n (i := 0) dX4_stopRinging_8 rfl rfl ?_
    refine PW.getf FX4_stopRinging_11 dX4_stopRinging_9 sm_desk rfl ?_
    refine PW.iload_n (i := 2) dX4_stopRinging_12 rfl rfl ?_
    refine PW.aald dX4_stopRinging_13 sm_lines (by decide) (fun _ => rfl) rfl rfl (Nat.lt_trans hs9 (by decide)) (lnA_get hs9) ?_
    refine PW.astore_n (i := 3) dX4_stopRinging_14 rfl (by decide) rfl ?_
    refine PW.aload_n (i := 3) dX4_stopRinging_15 rfl rfl ?_
    refine PW.aload_n (i := 1) dX4_stopRinging_16 rfl rfl ?_
    refine PW.getf FX4_stopRinging_115 dX4_stopRinging_17 (sm_line hc) rfl ?_
    refine PW.callV (k := kX4_stopRinging) (n := 1) (c_ringsFor hs9 _) dX4_stopRinging_20 gX4_stopRinging_X2_ringsFor rfl hd_X2_ringsFor rfl ⟨by decide, by decide⟩ ⟨rfl, rfl⟩ (Nat.le_of_ble_eq_true rfl) ⟨by decide, by decide⟩ (sm_line hs9) (by decide) rfl rfl (fun v m9 hp => ?_) (fun _ _ hx => hx.elim)
    obtain ⟨rfl, rfl⟩ := hp
    refine PW.if_eq (tgt := 48) dX4_stopRinging_23 (by decide) (fun h23 => ?_) (fun h23 => ?_)
    · refine PW.iinc (v := nI (s + 1)) dX4_stopRinging_48 rfl (nI_1 s) (by decide) rfl ?_
      refine PW.goto (tgt := 2) dX4_stopRinging_51 (by decide) ?_
      exact ih (s + 1) _ _ (by omega) hS (by rw [← hr, spL, if_neg (by rw [b2i_z h23]; decide)])
    · have hR := of_decide_eq_true (b2i_t h23)
      obtain ⟨o, t, ho, ht, e3, e4⟩ := (hS.1 s hs9).1 (Or.inl hR.1)
      refine PW.aload_n (i := 0) dX4_stopRinging_26 rfl rfl ?_
      refine PW.getf FX4_stopRinging_21 dX4_stopRinging_27 sm_desk rfl ?_
      refine PW.aload_n (i := 1) dX4_stopRinging_30 rfl rfl ?_
      refine PW.aload_n (i := 3) dX4_stopRinging_31 rfl rfl ?_
      refine PW.aload_n (i := 3) dX4_stopRinging_32 rfl rfl ?_
      refine PW.getf FX4_stopRinging_210 dX4_stopRinging_33 (sm_line hs9) rfl ?_
      rw [e4]
      refine PW.callV (k := kX4_stopRinging) (n := 3) (c_release hc hs9 ht) dX4_stopRinging_36 gX4_stopRinging_X3_release rfl hd_X3_release rfl ⟨by decide, by decide⟩ ⟨rfl, rfl⟩ (Nat.le_of_ble_eq_true rfl) ⟨by decide, by decide⟩ sm_sw (by decide) rfl rfl (fun v m9 hp => ?_) (fun _ _ hx => hx.elim)
      obtain ⟨rfl, rfl⟩ := hp
      refine PW.aload_n (i := 3) dX4_stopRinging_39 rfl rfl ?_
      refine PW.iconst (v := 0) dX4_stopRinging_40 (by decide) ?_
      refine PW.aload_n (i := 0) dX4_stopRinging_41 rfl rfl ?_
      refine PW.getf FX4_stopRinging_75 dX4_stopRinging_42 sm_desk rfl ?_
      refine PW.callV (k := kX4_stopRinging) (n := 2) (c_enter hs9 _ _) dX4_stopRinging_45 gX4_stopRinging_X2_enter rfl hd_X2_enter rfl ⟨by decide, by decide⟩ ⟨rfl, rfl⟩ (Nat.le_of_ble_eq_true rfl) ⟨by decide, by decide⟩ (sm_line hs9) (by decide) rfl rfl (fun v m9 hp => ?_) (fun _ _ hx => hx.elim)
      obtain ⟨rfl, rfl⟩ := hp
      refine PW.iinc (v := nI (s + 1)) dX4_stopRinging_48 rfl (nI_1 s) (by decide) rfl ?_
      refine PW.goto (tgt := 2) dX4_stopRinging_51 (by decide) ?_
      exact ih (s + 1) _ _ (by omega) (by have := hS.hang hc hs9; unfold f_hang at this; rw [e4, nI_clamp (by omega)] at this; exact this) (by rw [← hr, spL, if_pos (b2i_t h23), f_hang, e4, nI_clamp (by omega)])
set_option maxRecDepth 100000 in
set_option maxHeartbeats 4000000 in
theorem c_stopRinging {M : dM} {R : pM} {c : Nat} (hS : Sf M) (hc : c < 24) (l9 : Launch) : pMet l9 yX4_stopRinging kX4_stopRinging false [.ref 0, .ref (2 + c)] (SM M ++ R) (fun v m9 => v = none ∧ m9 = SM (f_stop M c) ++ R) (fun _ _ => False) := by
  refine pMet.of (by decide) rfl rfl rfl (by intro v hv; simp only [List.mem_cons, List.not_mem_nil, or_false] at hv; rcases hv with rfl | rfl <;> rfl) (Nat.le_of_ble_eq_true rfl) ?_
  show PW _ _ _ _ _ 0 [some (.ref 0), some (.ref (2 + c)), none, none] [] (SM M ++ R) 0 0
  refine PW.iconst (v := 0) dX4_stopRinging_0 (by decide) ?_
  refine PW.istore_n (i := 2) dX4_stopRinging_1 rfl (by decide) rfl ?_
  exact sp_loop hc 24 0 _ _ rfl hS rfl
def f_answer (M : dM) (o l t : Nat) : dM := f_stop (f_begin M o l (nI t)) o
set_option maxRecDepth 100000 in
set_option maxHeartbeats 4000000 in
theorem c_answer {M : dM} {R : pM} {l o t : Nat} (hS : Sf M) (hl : l < 24) (ho : o < 24) (ht : t < 8) (e3 : M l 3 = nI o) (e4 : M l 4 = nI t) (l9 : Launch) : pMet l9 yX4_answer kX4_answer false [.ref 0, .ref (2 + l)] (SM M ++ R) (fun v m9 => v = none ∧ m9 = SM (f_answer M o l t) ++ R) (fun _ _ => False) := by
  refine pMet.of (by decide) rfl rfl rfl (by intro v hv; simp only [List.mem_cons, List.not_mem_nil, or_false] at hv; rcases hv with rfl | rfl <;> rfl) (Nat.le_of_ble_eq_true rfl) ?_
  show PW _ _ _ _ _ 0 [some (.ref 0), some (.ref (2 + l)), none] [] (SM M ++ R) 0 0
  refine PW.aload_n (i := 0) dX4_answer_0 rfl rfl ?_
  refine PW.getf FX4_answer_11 dX4_answer_1 sm_desk rfl ?_
  refine PW.aload_n (i := 1) dX4_answer_4 rfl rfl ?_
  refine PW.getf FX4_answer_106 dX4_answer_5 (sm_line hl) rfl ?_
  refine PW.aald dX4_answer_8 sm_lines (by decide) (fun _ => rfl) rfl e3 (Nat.lt_trans ho (by decide)) (lnA_get ho) ?_
  refine PW.astore_n (i := 2) dX4_answer_9 rfl (by decide) rfl ?_
  refine PW.aload_n (i := 0) dX4_answer_10 rfl rfl ?_
  refine PW.aload_n (i := 2) dX4_answer_11 rfl rfl ?_
  refine PW.aload_n (i := 1) dX4_answer_12 rfl rfl ?_
  refine PW.aload_n (i := 1) dX4_answer_13 rfl rfl ?_
  refine PW.getf FX4_answer_210 dX4_answer_14 (sm_line hl) rfl ?_
  rw [e4]
  refine PW.callV (k := kX4_answer) (n := 3) (c_beginTalk ho hl _) dX4_answer_17 gX4_answer_X4_beginTalk rfl hd_X4_beginTalk rfl ⟨by decide, by decide⟩ ⟨rfl, rfl⟩ (Nat.le_of_ble_eq_true rfl) ⟨by decide, by decide⟩ sm_desk (by decide) rfl rfl (fun v m9 hp => ?_) (fun _ _ hx => hx.elim)
  obtain ⟨rfl, rfl⟩ := hp
  refine PW.aload_n (i := 0) dX4_answer_20 rfl rfl ?_
  refine PW.aload_n (i := 2) dX4_answer_21 rfl rfl ?_
  refine PW.callV (k := kX4_answer) (n := 1) (c_stopRinging (hS.begin ho hl ht) ho) dX4_answer_22 gX4_answer_X4_stopRinging rfl hd_X4_stopRinging rfl ⟨by decide, by decide⟩ ⟨rfl, rfl⟩ (Nat.le_of_ble_eq_true rfl) ⟨by decide, by decide⟩ sm_desk (by decide) rfl rfl (fun v m9 hp => ?_) (fun _ _ hx => hx.elim)
  obtain ⟨rfl, rfl⟩ := hp
  exact PW.vret dX4_answer_25 rfl ⟨rfl, rfl⟩ (by decide) (by decide)
def f_tnp (M : dM) (c o : Nat) : dM := if f_free M c o = -1 then f_take M c o else f_begin (f_take M c o) c o (f_free M c o)
set_option maxRecDepth 100000 in
set_option maxHeartbeats 4000000 in
theorem c_talkByNewPath {M : dM} {R : pM} {c o : Nat} (hc : c < 24) (ho : o < 24) (l9 : Launch) : pMet l9 yX4_talkByNewPath kX4_talkByNewPath false [.ref 0, .ref (2 + c), .ref (2 + o)] (SM M ++ R) (fun v m9 => v = some (.int (b2i (decide (¬ f_free M c o = -1)))) ∧ m9 = SM (f_tnp M c o) ++ R) (fun _ _ => False) := by
  refine pMet.of (by decide) rfl rfl rfl (by intro v hv; simp only [List.mem_cons, List.not_mem_nil, or_false] at hv; rcases hv with rfl | rfl | rfl <;> rfl) (Nat.le_of_ble_eq_true rfl) ?_
  show PW _ _ _ _ _ 0 [some (.ref 0), some (.ref (2 + c)), some (.ref (2 + o)), none] [] (SM M ++ R) 0 0
  refine PW.aload_n (i := 0) dX4_talkByNewPath_0 rfl rfl ?_
  refine PW.getf FX4_talkByNewPath_21 dX4_talkByNewPath_1 sm_desk rfl ?_
  refine PW.aload_n (i := 1) dX4_talkByNewPath_4 rfl rfl ?_
  refine PW.aload_n (i := 2) dX4_talkByNewPath_5 rfl rfl ?_
  refine PW.callV (k := kX4_talkByNewPath) (n := 2) (c_take hc ho) dX4_talkByNewPath_6 gX4_talkByNewPath_X3_take rfl hd_X3_take rfl ⟨by decide, by decide⟩ ⟨rfl, rfl⟩ (Nat.le_of_ble_eq_true rfl) ⟨by decide, by decide⟩ sm_sw (by decide) rfl rfl (fun v m9 hp => ?_) (fun _ _ hx => hx.elim)
  obtain ⟨rfl, rfl⟩ := hp
  refine PW.istore_n (i := 3) dX4_talkByNewPath_9 rfl (by decide) rfl ?_
  refine PW.iload_n (i := 3) dX4_talkByNewPath_10 rfl rfl ?_
  refine PW.iconst (v := (-1)) dX4_talkByNewPath_11 (by decide) ?_
  refine PW.icmp_ne (tgt := 17) dX4_talkByNewPath_12 (by decide) (fun h12 => ?_) (fun h12 => ?_)
  · refine PW.aload_n (i := 0) dX4_talkByNewPath_17 rfl rfl ?_
    refine PW.aload_n (i := 1) dX4_talkByNewPath_18 rfl rfl ?_
    refine PW.aload_n (i := 2) dX4_talkByNewPath_19 rfl rfl ?_
    refine PW.iload_n (i := 3) dX4_talkByNewPath_20 rfl rfl ?_
    refine PW.callV (k := kX4_talkByNewPath) (n := 3) (c_beginTalk hc ho _) dX4_talkByNewPath_21 gX4_talkByNewPath_X4_beginTalk rfl hd_X4_beginTalk rfl ⟨by decide, by decide⟩ ⟨rfl, rfl⟩ (Nat.le_of_ble_eq_true rfl) ⟨by decide, by decide⟩ sm_desk (by decide) rfl rfl (fun v m9 hp => ?_) (fun _ _ hx => hx.elim)
    obtain ⟨rfl, rfl⟩ := hp
    refine PW.iconst (v := 1) dX4_talkByNewPath_24 (by decide) ?_
    exact PW.zret (v := 1) dX4_talkByNewPath_25 rfl rfl ⟨by simp [h12, b2i], by rw [f_tnp, if_neg h12]⟩ (by decide) (by decide)
  · refine PW.iconst (v := 0) dX4_talkByNewPath_15 (by decide) ?_
    exact PW.zret (v := 0) dX4_talkByNewPath_16 rfl rfl ⟨by simp [h12, b2i], by rw [f_tnp, if_pos h12]⟩ (by decide) (by decide)
theorem Sf.tnp {M : dM} {c o : Nat} (h : Sf M) (hc : c < 24) (ho : o < 24) : Sf (f_tnp M c o) := by
  unfold f_tnp
  split
  · exact h.take hc ho
  · next hf =>
    obtain ⟨t, ht, et⟩ := (f_free_cases M c o).resolve_left hf
    rw [et]
    exact (h.take hc ho).begin hc ho ht
def frL (M : dM) : Nat → Nat → Option Nat → Int32 → Option Nat
  | 0, _, b, _ => b
  | n + 1, l, b, s => if M l 1 = 4 ∧ M l 2 < s then frL M n (l + 1) (some l) (M l 2) else frL M n (l + 1) b s
def f_fr (M : dM) (u : Nat) : Option Nat := frL M 6 (u * 6) none 2147483647
def frV (b : Option Nat) : Value := match b with
  | none => .null
  | some l => .ref (2 + l)
theorem frL_cases (M : dM) (N : Nat) : ∀ n l b s, l + n ≤ N → (b = none ∨ ∃ q, q < N ∧ b = some q ∧ M q 1 = 4) → (frL M n l b s = none ∨ ∃ q, q < N ∧ frL M n l b s = some q ∧ M q 1 = 4)
  | 0, _, _, _, _, h => h
  | n + 1, l, b, s, h, hb => by
    by_cases e : M l 1 = 4 ∧ M l 2 < s
    · rw [frL, if_pos e]; exact frL_cases M N n (l + 1) _ _ (by omega) (Or.inr ⟨l, by omega, rfl, e.1⟩)
    · rw [frL, if_neg e]; exact frL_cases M N n (l + 1) _ _ (by omega) hb
set_option maxRecDepth 100000 in
set_option maxHeartbeats 4000000 in
theorem fr_loop {M : dM} {R : pM} {u n0 : Nat} (hu : u < 4) : ∀ (n s : Nat) (b : Option Nat) (t : Int32) (w5 : Option Value), s + n = (u + 1) * 6 → frL M n s b t = f_fr M u → PW kX4_firstRinging false n0 (fun v m9 => v = some (frV (f_fr M u)) ∧ m9 = SM M ++ R) (fun _ _ => False) 12 [some (.ref 0), some (.int (nI u)), some (frV b), some (.int t), some (.int (nI s)), w5] [] (SM M ++ R) 0 0 := by
  intro n
  induction n with
  | zero =>
    intro s b t w5 hs hr
    refine PW.iload dX4_firstRinging_12 rfl ?_
    refine PW.iload_n (i := 1) dX4_firstRinging_14 rfl rfl ?_
    refine PW.iconst (v := 1) dX4_firstRinging_15 (by decide) ?_
    refine PW.iadd dX4_firstRinging_16 ?_
    refine PW.bipush (v := 6) dX4_firstRinging_17 (by decide) ?_
    refine PW.imul dX4_firstRinging_19 ?_
    rw [show nI u + 1 = nI (u + 1) from nI_1 u, show nI (u + 1) * 6 = nI ((u + 1) * 6) from pk_mul (u + 1) 6]
    refine PW.icmp_ge (tgt := 65) dX4_firstRinging_20 (by decide) (fun _ => ?_) (fun h20 => absurd (nI_le (a := (u + 1) * 6) (b := s) (by omega) (by omega)) h20)
    cases b with
    | none =>
      refine PW.aload_nN (i := 2) dX4_firstRinging_65 rfl rfl ?_
      exact PW.aret dX4_firstRinging_66 rfl (Or.inl rfl) ⟨by rw [← hr]; rfl, rfl⟩ (by decide) (by decide)
    | some q =>
      refine PW.aload_n (i := 2) dX4_firstRinging_65 rfl rfl ?_
      exact PW.aret dX4_firstRinging_66 rfl (Or.inr ⟨_, rfl⟩) ⟨by rw [← hr]; rfl, rfl⟩ (by decide) (by decide)
  | succ n ih =>
    intro s b t w5 hs hr
    refine PW.iload dX4_firstRinging_12 rfl ?_
    refine PW.iload_n (i := 1) dX4_firstRinging_14 rfl rfl ?_
    refine PW.iconst (v := 1) dX4_firstRinging_15 (by decide) ?_
    refine PW.iadd dX4_firstRinging_16 ?_
    refine PW.bipush (v := 6) dX4_firstRinging_17 (by decide) ?_
    refine PW.imul dX4_firstRinging_19 ?_
    rw [show nI u + 1 = nI (u + 1) from nI_1 u, show nI (u + 1) * 6 = nI ((u + 1) * 6) from pk_mul (u + 1) 6]
    refine PW.icmp_ge (tgt := 65) dX4_firstRinging_20 (by decide) (fun h20 => absurd h20 (nI_ge (a := s) (b := (u + 1) * 6) (by omega) (by omega))) (fun _ => ?_)
    have hs9 : s < 24 := by omega
    refine PW.aload_n (i := 0) dX4_firstRinging_23 rfl rfl ?_
    refine PW.getf FX4_firstRinging_11 dX4_firstRinging_24 sm_desk rfl ?_
    refine PW.iload dX4_firstRinging_27 rfl ?_
    refine PW.aald dX4_firstRinging_29 sm_lines (by decide) (fun _ => rfl) rfl rfl (Nat.lt_trans hs9 (by decide)) (lnA_get hs9) ?_
    refine PW.astore dX4_firstRinging_30 (by decide) rfl ?_
    refine PW.aload dX4_firstRinging_32 rfl ?_
    refine PW.getf FX4_firstRinging_64 dX4_firstRinging_34 (sm_line hs9) rfl ?_
    refine PW.iconst (v := 4) dX4_firstRinging_37 (by decide) ?_
    refine PW.icmp_ne (tgt := 59) dX4_firstRinging_38 (by decide) (fun h38 => ?_) (fun h38 => ?_)
    · refine PW.iinc (v := nI (s + 1)) dX4_firstRinging_59 rfl (nI_1 s) (by decide) rfl ?_
      refine PW.goto (tgt := 12) dX4_firstRinging_62 (by decide) ?_
      exact ih (s + 1) _ _ _ (by omega) (by rw [← hr, frL, if_neg (fun q => h38 q.1)])
    · refine PW.aload dX4_firstRinging_41 rfl ?_
      refine PW.getf FX4_firstRinging_270 dX4_firstRinging_43 (sm_line hs9) rfl ?_
      refine PW.iload_n (i := 3) dX4_firstRinging_46 rfl rfl ?_
      refine PW.icmp_ge (tgt := 59) dX4_firstRinging_47 (by decide) (fun h47 => ?_) (fun h47 => ?_)
      · refine PW.iinc (v := nI (s + 1)) dX4_firstRinging_59 rfl (nI_1 s) (by decide) rfl ?_
        refine PW.goto (tgt := 12) dX4_firstRinging_62 (by decide) ?_
        exact ih (s + 1) _ _ _ (by omega) (by rw [← hr, frL, if_neg (fun q => absurd q.2 (Int32.not_lt.mpr h47))])
      · refine PW.aload dX4_firstRinging_50 rfl ?_
        refine PW.astore_n (i := 2) dX4_firstRinging_52 rfl (by decide) rfl ?_
        refine PW.aload dX4_firstRinging_53 rfl ?_
        refine PW.getf FX4_firstRinging_270 dX4_firstRinging_55 (sm_line hs9) rfl ?_
        refine PW.istore_n (i := 3) dX4_firstRinging_58 rfl (by decide) rfl ?_
        refine PW.iinc (v := nI (s + 1)) dX4_firstRinging_59 rfl (nI_1 s) (by decide) rfl ?_
        refine PW.goto (tgt := 12) dX4_firstRinging_62 (by decide) ?_
        exact ih (s + 1) (some s) _ _ (by omega) (by rw [← hr, frL, if_pos ⟨h38, Int32.not_le.mp h47⟩])
set_option maxRecDepth 100000 in
set_option maxHeartbeats 4000000 in
theorem c_firstRinging {M : dM} {R : pM} {u : Nat} (hu : u < 4) (l9 : Launch) : pMet l9 yX4_firstRinging kX4_firstRinging false [.ref 0, .int (nI u)] (SM M ++ R) (fun v m9 => v = some (frV (f_fr M u)) ∧ m9 = SM (M) ++ R) (fun _ _ => False) := by
  refine pMet.of (by decide) rfl rfl rfl (by intro v hv; simp only [List.mem_cons, List.not_mem_nil, or_false] at hv; rcases hv with rfl | rfl <;> rfl) (Nat.le_of_ble_eq_true rfl) ?_
  show PW _ _ _ _ _ 0 [some (.ref 0), some (.int (nI u)), none, none, none, none] [] (SM M ++ R) 0 0
  refine PW.null dX4_firstRinging_0 ?_
  refine PW.astore_nN (i := 2) dX4_firstRinging_1 rfl (by decide) rfl ?_
  refine PW.ldcw (v := 2147483647) dX4_firstRinging_2 (by decide +kernel) ?_
  refine PW.istore_n (i := 3) dX4_firstRinging_5 rfl (by decide) rfl ?_
  refine PW.iload_n (i := 1) dX4_firstRinging_6 rfl rfl ?_
  refine PW.bipush (v := 6) dX4_firstRinging_7 (by decide) ?_
  refine PW.imul dX4_firstRinging_9 ?_
  rw [show nI u * 6 = nI (u * 6) from pk_mul u 6]
  refine PW.istore dX4_firstRinging_10 (by decide) rfl ?_
  exact fr_loop hu 6 (u * 6) none _ _ (by omega) rfl
