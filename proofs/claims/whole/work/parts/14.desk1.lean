abbrev kX4_require : pK := (RX4, cX4_require, 1, wsX4_require, { frames := 6, cells := 1, slots := 6, locals := 180 }, none, [], 1, 6, pNo)
abbrev kX4_isLine : pK := (RX4, cX4_isLine, 1, wsX4_isLine, { frames := 0, cells := 0, slots := 0, locals := 0 }, (some .boolean), [], 0, 0, pNo)
abbrev kX4_isSlot : pK := (RX4, cX4_isSlot, 2, wsX4_isSlot, { frames := 0, cells := 0, slots := 0, locals := 0 }, (some .boolean), [], 0, 0, pNo)
abbrev kX4_lineOf : pK := (RX4, cX4_lineOf, 2, wsX4_lineOf, { frames := 7, cells := 1, slots := 6, locals := 210 }, (some (.object "ExchangeDesk$Line")), [], 1, 6, pNo)
theorem FX4_lineOf_11 : pF kX4_lineOf.Ts kX4_lineOf.own 11 4 0 := ⟨_, _, _, by decide, rfl, by decide, by decide +kernel, by decide +kernel⟩
abbrev kX4_lowestRinging : pK := (RX4, cX4_lowestRinging, 3, wsX4_lowestRinging, { frames := 1, cells := 0, slots := 0, locals := 30 }, (some .int), [], 0, 0, pNo)
theorem FX4_lowestRinging_11 : pF kX4_lowestRinging.Ts kX4_lowestRinging.own 11 4 0 := ⟨_, _, _, by decide, rfl, by decide, by decide +kernel, by decide +kernel⟩
abbrev kX4_slotOf : pK := (RX4, cX4_slotOf, 3, wsX4_slotOf, { frames := 2, cells := 0, slots := 0, locals := 60 }, (some .int), [], 0, 0, pNo)
theorem FX4_slotOf_64 : pF kX4_slotOf.Ts kX4_slotOf.own 64 2 1 := ⟨_, _, _, by decide, rfl, by decide, by decide +kernel, by decide +kernel⟩
theorem FX4_slotOf_210 : pF kX4_slotOf.Ts kX4_slotOf.own 210 2 4 := ⟨_, _, _, by decide, rfl, by decide, by decide +kernel, by decide +kernel⟩
theorem FX4_slotOf_115 : pF kX4_slotOf.Ts kX4_slotOf.own 115 2 0 := ⟨_, _, _, by decide, rfl, by decide, by decide +kernel, by decide +kernel⟩
theorem FX4_slotOf_11 : pF kX4_slotOf.Ts kX4_slotOf.own 11 4 0 := ⟨_, _, _, by decide, rfl, by decide, by decide +kernel, by decide +kernel⟩
abbrev kX4_isWilling : pK := (RX4, cX4_isWilling, 2, wsX4_isWilling, { frames := 0, cells := 0, slots := 0, locals := 0 }, (some .boolean), [], 0, 0, pNo)
theorem FX4_isWilling_64 : pF kX4_isWilling.Ts kX4_isWilling.own 64 2 1 := ⟨_, _, _, by decide, rfl, by decide, by decide +kernel, by decide +kernel⟩
theorem FX4_isWilling_182 : pF kX4_isWilling.Ts kX4_isWilling.own 182 2 9 := ⟨_, _, _, by decide, rfl, by decide, by decide +kernel, by decide +kernel⟩
abbrev kX4_canTake : pK := (RX4, cX4_canTake, 3, wsX4_canTake, { frames := 1, cells := 0, slots := 0, locals := 30 }, (some .boolean), [], 0, 0, pNo)
theorem FX4_canTake_21 : pF kX4_canTake.Ts kX4_canTake.own 21 4 1 := ⟨_, _, _, by decide, rfl, by decide, by decide +kernel, by decide +kernel⟩
abbrev kX4_hasWilling : pK := (RX4, cX4_hasWilling, 4, wsX4_hasWilling, { frames := 1, cells := 0, slots := 0, locals := 30 }, (some .boolean), [], 0, 0, pNo)
theorem FX4_hasWilling_146 : pF kX4_hasWilling.Ts kX4_hasWilling.own 146 1 1 := ⟨_, _, _, by decide, rfl, by decide, by decide +kernel, by decide +kernel⟩
theorem FX4_hasWilling_11 : pF kX4_hasWilling.Ts kX4_hasWilling.own 11 4 0 := ⟨_, _, _, by decide, rfl, by decide, by decide +kernel, by decide +kernel⟩
theorem FX4_hasWilling_250 : pF kX4_hasWilling.Ts kX4_hasWilling.own 250 1 0 := ⟨_, _, _, by decide, rfl, by decide, by decide +kernel, by decide +kernel⟩
abbrev kX4_firstToTake : pK := (RX4, cX4_firstToTake, 6, wsX4_firstToTake, { frames := 2, cells := 0, slots := 0, locals := 60 }, (some .int), [], 0, 0, pNo)
theorem FX4_firstToTake_237 : pF kX4_firstToTake.Ts kX4_firstToTake.own 237 1 2 := ⟨_, _, _, by decide, rfl, by decide, by decide +kernel, by decide +kernel⟩
theorem FX4_firstToTake_263 : pF kX4_firstToTake.Ts kX4_firstToTake.own 263 1 3 := ⟨_, _, _, by decide, rfl, by decide, by decide +kernel, by decide +kernel⟩
theorem FX4_firstToTake_146 : pF kX4_firstToTake.Ts kX4_firstToTake.own 146 1 1 := ⟨_, _, _, by decide, rfl, by decide, by decide +kernel, by decide +kernel⟩
theorem FX4_firstToTake_11 : pF kX4_firstToTake.Ts kX4_firstToTake.own 11 4 0 := ⟨_, _, _, by decide, rfl, by decide, by decide +kernel, by decide +kernel⟩
theorem FX4_firstToTake_250 : pF kX4_firstToTake.Ts kX4_firstToTake.own 250 1 0 := ⟨_, _, _, by decide, rfl, by decide, by decide +kernel, by decide +kernel⟩
abbrev kX4_longestIdle : pK := (RX4, cX4_longestIdle, 7, wsX4_longestIdle, { frames := 2, cells := 0, slots := 0, locals := 60 }, (some .int), [], 0, 0, pNo)
theorem FX4_longestIdle_146 : pF kX4_longestIdle.Ts kX4_longestIdle.own 146 1 1 := ⟨_, _, _, by decide, rfl, by decide, by decide +kernel, by decide +kernel⟩
theorem FX4_longestIdle_11 : pF kX4_longestIdle.Ts kX4_longestIdle.own 11 4 0 := ⟨_, _, _, by decide, rfl, by decide, by decide +kernel, by decide +kernel⟩
theorem FX4_longestIdle_250 : pF kX4_longestIdle.Ts kX4_longestIdle.own 250 1 0 := ⟨_, _, _, by decide, rfl, by decide, by decide +kernel, by decide +kernel⟩
theorem FX4_longestIdle_270 : pF kX4_longestIdle.Ts kX4_longestIdle.own 270 2 2 := ⟨_, _, _, by decide, rfl, by decide, by decide +kernel, by decide +kernel⟩
abbrev kX4_ring : pK := (RX4, cX4_ring, 4, wsX4_ring, { frames := 2, cells := 0, slots := 0, locals := 60 }, (some .boolean), [], 0, 0, pNo)
theorem FX4_ring_21 : pF kX4_ring.Ts kX4_ring.own 21 4 1 := ⟨_, _, _, by decide, rfl, by decide, by decide +kernel, by decide +kernel⟩
theorem FX4_ring_75 : pF kX4_ring.Ts kX4_ring.own 75 4 5 := ⟨_, _, _, by decide, rfl, by decide, by decide +kernel, by decide +kernel⟩
theorem FX4_ring_115 : pF kX4_ring.Ts kX4_ring.own 115 2 0 := ⟨_, _, _, by decide, rfl, by decide, by decide +kernel, by decide +kernel⟩
theorem FX4_ring_106 : pF kX4_ring.Ts kX4_ring.own 106 2 3 := ⟨_, _, _, by decide, rfl, by decide, by decide +kernel, by decide +kernel⟩
theorem FX4_ring_210 : pF kX4_ring.Ts kX4_ring.own 210 2 4 := ⟨_, _, _, by decide, rfl, by decide, by decide +kernel, by decide +kernel⟩
abbrev kX4_block : pK := (RX4, cX4_block, 2, wsX4_block, { frames := 1, cells := 0, slots := 0, locals := 30 }, none, [], 0, 0, pNo)
theorem FX4_block_75 : pF kX4_block.Ts kX4_block.own 75 4 5 := ⟨_, _, _, by decide, rfl, by decide, by decide +kernel, by decide +kernel⟩
theorem FX4_block_185 : pF kX4_block.Ts kX4_block.own 185 4 6 := ⟨_, _, _, by decide, rfl, by decide, by decide +kernel, by decide +kernel⟩
abbrev kX4_callLine : pK := (RX4, cX4_callLine, 3, wsX4_callLine, { frames := 3, cells := 0, slots := 0, locals := 90 }, none, [], 0, 0, pNo)
theorem FX4_callLine_182 : pF kX4_callLine.Ts kX4_callLine.own 182 2 9 := ⟨_, _, _, by decide, rfl, by decide, by decide +kernel, by decide +kernel⟩
theorem FX4_callLine_75 : pF kX4_callLine.Ts kX4_callLine.own 75 4 5 := ⟨_, _, _, by decide, rfl, by decide, by decide +kernel, by decide +kernel⟩
theorem FX4_callLine_64 : pF kX4_callLine.Ts kX4_callLine.own 64 2 1 := ⟨_, _, _, by decide, rfl, by decide, by decide +kernel, by decide +kernel⟩
theorem FX4_callLine_115 : pF kX4_callLine.Ts kX4_callLine.own 115 2 0 := ⟨_, _, _, by decide, rfl, by decide, by decide +kernel, by decide +kernel⟩
theorem FX4_callLine_98 : pF kX4_callLine.Ts kX4_callLine.own 98 2 5 := ⟨_, _, _, by decide, rfl, by decide, by decide +kernel, by decide +kernel⟩
def f_isLine (x : Int32) : Bool := decide (¬ x < 0 ∧ ¬ 24 ≤ x)
def f_isSlot (u s : Int32) : Bool := decide (¬ u < 0 ∧ ¬ 4 ≤ u ∧ ¬ s < 0 ∧ ¬ 8 ≤ s)
set_option maxRecDepth 100000 in
set_option maxHeartbeats 4000000 in
theorem c_isLine {M : dM} {R : pM} (x : Int32) (l9 : Launch) : pMet l9 yX4_isLine kX4_isLine false [.int x] (SM M ++ R) (fun v m9 => v = some (.int (b2i (f_isLine x))) ∧ m9 = SM (M) ++ R) (fun _ _ => False) := by
  refine pMet.of (by decide) rfl rfl rfl (by intro v hv; simp only [List.mem_cons, List.not_mem_nil, or_false] at hv; subst hv; rfl) (Nat.le_of_ble_eq_true rfl) ?_
  show PW _ _ _ _ _ 0 [some (.int x)] [] (SM M ++ R) 0 0
  refine PW.iload_n (i := 0) dX4_isLine_0 rfl rfl ?_
  refine PW.if_lt (tgt := 14) dX4_isLine_1 (by decide) (fun h1 => ?_) (fun h1 => ?_)
  · refine PW.iconst (v := 0) dX4_isLine_14 (by decide) ?_
    exact PW.zret (v := 0) dX4_isLine_15 rfl rfl ⟨by simp [f_isLine, b2i, h1], rfl⟩ (by decide) (by decide)
  · refine PW.iload_n (i := 0) dX4_isLine_4 rfl rfl ?_
    refine PW.bipush (v := 24) dX4_isLine_5 (by decide) ?_
    refine PW.icmp_ge (tgt := 14) dX4_isLine_7 (by decide) (fun h7 => ?_) (fun h7 => ?_)
    · refine PW.iconst (v := 0) dX4_isLine_14 (by decide) ?_
      exact PW.zret (v := 0) dX4_isLine_15 rfl rfl ⟨by simp [f_isLine, b2i, h1, h7], rfl⟩ (by decide) (by decide)
    · refine PW.iconst (v := 1) dX4_isLine_10 (by decide) ?_
      refine PW.goto (tgt := 15) dX4_isLine_11 (by decide) ?_
      exact PW.zret (v := 1) dX4_isLine_15 rfl rfl ⟨by simp [f_isLine, b2i, h1, h7], rfl⟩ (by decide) (by decide)
set_option maxRecDepth 100000 in
set_option maxHeartbeats 4000000 in
theorem c_isSlot {M : dM} {R : pM} (u s : Int32) (l9 : Launch) : pMet l9 yX4_isSlot kX4_isSlot false [.int u, .int s] (SM M ++ R) (fun v m9 => v = some (.int (b2i (f_isSlot u s))) ∧ m9 = SM (M) ++ R) (fun _ _ => False) := by
  refine pMet.of (by decide) rfl rfl rfl (by intro v hv; simp only [List.mem_cons, List.not_mem_nil, or_false] at hv; rcases hv with rfl | rfl <;> rfl) (Nat.le_of_ble_eq_true rfl) ?_
  show PW _ _ _ _ _ 0 [some (.int u), some (.int s)] [] (SM M ++ R) 0 0
  refine PW.iload_n (i := 0) dX4_isSlot_0 rfl rfl ?_
  refine PW.if_lt (tgt := 23) dX4_isSlot_1 (by decide) (fun h1 => ?_) (fun h1 => ?_)
  · refine PW.iconst (v := 0) dX4_isSlot_23 (by decide) ?_
    exact PW.zret (v := 0) dX4_isSlot_24 rfl rfl ⟨by simp [f_isSlot, b2i, h1], rfl⟩ (by decide) (by decide)
  · refine PW.iload_n (i := 0) dX4_isSlot_4 rfl rfl ?_
    refine PW.iconst (v := 4) dX4_isSlot_5 (by decide) ?_
    refine PW.icmp_ge (tgt := 23) dX4_isSlot_6 (by decide) (fun h6 => ?_) (fun h6 => ?_)
    · refine PW.iconst (v := 0) dX4_isSlot_23 (by decide) ?_
      exact PW.zret (v := 0) dX4_isSlot_24 rfl rfl ⟨by simp [f_isSlot, b2i, h1, h6], rfl⟩ (by decide) (by decide)
    · refine PW.iload_n (i := 1) dX4_isSlot_9 rfl rfl ?_
      refine PW.if_lt (tgt := 23) dX4_isSlot_10 (by decide) (fun h10 => ?_) (fun h10 => ?_)
      · refine PW.iconst (v := 0) dX4_isSlot_23 (by decide) ?_
        exact PW.zret (v := 0) dX4_isSlot_24 rfl rfl ⟨by simp [f_isSlot, b2i, h1, h6, h10], rfl⟩ (by decide) (by decide)
      · refine PW.iload_n (i := 1) dX4_isSlot_13 rfl rfl ?_
        refine PW.bipush (v := 8) dX4_isSlot_14 (by decide) ?_
        refine PW.icmp_ge (tgt := 23) dX4_isSlot_16 (by decide) (fun h16 => ?_) (fun h16 => ?_)
        · refine PW.iconst (v := 0) dX4_isSlot_23 (by decide) ?_
          exact PW.zret (v := 0) dX4_isSlot_24 rfl rfl ⟨by simp [f_isSlot, b2i, h1, h6, h10, h16], rfl⟩ (by decide) (by decide)
        · refine PW.iconst (v := 1) dX4_isSlot_19 (by decide) ?_
          refine PW.goto (tgt := 24) dX4_isSlot_20 (by decide) ?_
          exact PW.zret (v := 1) dX4_isSlot_24 rfl rfl ⟨by simp [f_isSlot, b2i, h1, h6, h10, h16], rfl⟩ (by decide) (by decide)
theorem b2i_0 {b : Bool} : b2i b = 0 ↔ b = false := by cases b <;> decide
theorem b2i_ne {b : Bool} : ¬ b2i b = 0 ↔ b = true := by cases b <;> decide
set_option maxRecDepth 100000 in
set_option maxHeartbeats 4000000 in
theorem c_require {M : dM} {R : pM} (b : Bool) (l9 : Launch) : pMet l9 yX4_require kX4_require false [.int (b2i b)] (SM M ++ R) (fun v m9 => b = true ∧ v = none ∧ m9 = SM M ++ R) (fun E m9 => b = false ∧ E = "java/lang/IllegalArgumentException" ∧ m9 = SM M ++ R) := by
  refine pMet.of (by decide) rfl rfl rfl (by intro v hv; simp only [List.mem_cons, List.not_mem_nil, or_false] at hv; subst hv; rfl) (Nat.le_of_ble_eq_true rfl) ?_
  show PW _ _ _ _ _ 0 [some (.int (b2i b))] [] (SM M ++ R) 0 0
  refine PW.iload_n (i := 0) dX4_require_0 rfl rfl ?_
  refine PW.if_ne (tgt := 14) dX4_require_1 (by decide) (fun h1 => ?_) (fun h1 => ?_)
  · exact PW.vret dX4_require_14 rfl ⟨b2i_ne.mp h1, rfl, rfl⟩ (by decide) (by decide)
  · exact PW.throwS (cls := "java/lang/IllegalArgumentException") (text := "an argument is not in its range") (names := ["java/lang/RuntimeException", "java/lang/Exception"]) (ik := 205) (is := 207) (ic := 209) (by decide +kernel) (by decide +kernel) (by decide +kernel) (by decide +kernel) (by decide +kernel) rfl (by decide +kernel) (fun _ h => List.mem_cons_of_mem _ (List.mem_append_right _ h)) (by decide +kernel) (by decide +kernel) dX4_require_4 dX4_require_7 dX4_require_8 dX4_require_10 dX4_require_13 rfl (by decide) (Nat.le_of_ble_eq_true rfl) (by decide) (by decide) (by decide) (by decide) ⟨b2i_0.mp h1, rfl, rfl⟩
theorem isLine_of {x : Int32} (h : f_isLine x = true) : ∃ l, l < 24 ∧ x = nI l := by
  have h1 := of_decide_eq_true h
  rcases pk_ix x (n := 24) (by decide) with h2 | h2 | h2
  · exact absurd h2 h1.1
  · exact absurd h2 h1.2
  · exact h2
theorem isLine_nI {l : Nat} (h : l < 24) : f_isLine (nI l) = true := decide_eq_true ⟨nI_pos (by omega), nI_ge (b := 24) h (by decide)⟩
set_option maxRecDepth 100000 in
set_option maxHeartbeats 4000000 in
theorem c_lineOf {M : dM} {R : pM} (x : Int32) (l9 : Launch) : pMet l9 yX4_lineOf kX4_lineOf false [.ref 0, .int x] (SM M ++ R) (fun v m9 => ∃ l, l < 24 ∧ x = nI l ∧ v = some (.ref (2 + l)) ∧ m9 = SM M ++ R) (fun E m9 => f_isLine x = false ∧ E = "java/lang/IllegalArgumentException" ∧ m9 = SM M ++ R) := by
  refine pMet.of (by decide) rfl rfl rfl (by intro v hv; simp only [List.mem_cons, List.not_mem_nil, or_false] at hv; rcases hv with rfl | rfl <;> rfl) (Nat.le_of_ble_eq_true rfl) ?_
  show PW _ _ _ _ _ 0 [some (.ref 0), some (.int x)] [] (SM M ++ R) 0 0
  refine PW.iload_n (i := 1) dX4_lineOf_0 rfl rfl ?_
  refine PW.callS (k := kX4_lineOf) (n := 1) (c_isLine _) dX4_lineOf_1 gX4_lineOf_X4_isLine rfl hs_X4_isLine rfl ⟨by decide, by decide⟩ ⟨rfl, rfl⟩ (Nat.le_of_ble_eq_true rfl) ⟨by decide, by decide⟩ rfl (fun v m9 hp => ?_) (fun _ _ hx => hx.elim)
  obtain ⟨rfl, rfl⟩ := hp
  refine PW.callS (k := kX4_lineOf) (n := 1) (c_require (f_isLine x)) dX4_lineOf_4 gX4_lineOf_X4_require rfl hs_X4_require rfl ⟨by decide, by decide⟩ ⟨rfl, rfl⟩ (Nat.le_of_ble_eq_true rfl) ⟨by decide, by decide⟩ rfl (fun v m9 hp => ?_) (fun E m9 hx => ?_)
  rotate_left
  · obtain ⟨hx, rfl, rfl⟩ := hx
    exact PT.out rfl ⟨hx, rfl, rfl⟩ (by decide) (by decide)
  obtain ⟨hr, rfl, rfl⟩ := hp
  obtain ⟨l, hl, rfl⟩ := isLine_of hr
  refine PW.aload_n (i := 0) dX4_lineOf_7 rfl rfl ?_
  refine PW.getf FX4_lineOf_11 dX4_lineOf_8 sm_desk rfl ?_
  refine PW.iload_n (i := 1) dX4_lineOf_11 rfl rfl ?_
  refine PW.aald dX4_lineOf_12 sm_lines (by decide) (fun _ => rfl) rfl rfl (Nat.lt_trans hl (by decide)) (lnA_get hl) ?_
  exact PW.aret dX4_lineOf_13 rfl (Or.inr ⟨_, rfl⟩) ⟨l, hl, rfl, rfl, rfl⟩ (by decide) (by decide)
def lrL (M : dM) (c : Int32) : Nat → Nat → Int32
  | 0, _ => -1
  | n + 1, l => if f_rfor M l c = true then nI l else lrL M c n (l + 1)
def f_lowR (M : dM) (c : Int32) : Int32 := lrL M c 24 0
theorem lrL_cases (M : dM) (c : Int32) : ∀ n s, lrL M c n s = -1 ∨ ∃ t, t < s + n ∧ lrL M c n s = nI t ∧ f_rfor M t c = true
  | 0, _ => Or.inl rfl
  | n + 1, s => by
    by_cases h : f_rfor M s c = true
    · exact Or.inr ⟨s, by omega, by rw [lrL, if_pos h], h⟩
    · rcases lrL_cases M c n (s + 1) with e | ⟨t, h1, h2, h3⟩
      · left; rw [lrL, if_neg h]; exact e
      · right; exact ⟨t, by omega, by rw [lrL, if_neg h]; exact h2, h3⟩
set_option maxRecDepth 100000 in
theorem lr_loop {M : dM} {R : pM} {n0 : Nat} (c : Int32) : ∀ (n s : Nat), s + n = 24 → lrL M c n s = f_lowR M c → PW kX4_lowestRinging false n0 (fun v m9 => v = some (.int (f_lowR M c)) ∧ m9 = SM M ++ R) (fun _ _ => False) 2 [some (.ref 0), some (.int c), some (.int (nI s))] [] (SM M ++ R) 0 0 := by
  intro n
  induction n with
  | zero =>
    intro s hs hr
    refine PW.iload_n (i := 2) dX4_lowestRinging_2 rfl rfl ?_
    refine PW.bipush (v := 24) dX4_lowestRinging_3 (by decide) ?_
    refine PW.icmp_ge (tgt := 29) dX4_lowestRinging_5 (by decide) (fun _ => ?_) (fun h5 => absurd (nI_le (a := 24) (b := s) (by omega) (by omega)) h5)
    refine PW.iconst (v := (-1)) dX4_lowestRinging_29 (by decide) ?_
    exact PW.iret dX4_lowestRinging_30 rfl ⟨by rw [← hr]; rfl, rfl⟩ (by decide) (by decide)
  | succ n ih =>
    intro s hs hr
    refine PW.iload_n (i := 2) dX4_lowestRinging_2 rfl rfl ?_
    refine PW.bipush (v := 24) dX4_lowestRinging_3 (by decide) ?_
    refine PW.icmp_ge (tgt := 29) dX4_lowestRinging_5 (by decide) (fun h5 => absurd h5 (nI_ge (a := s) (b := 24) (by omega) (by decide))) (fun _ => ?_)
    have hs9 : s < 24 := by omega
    refine PW.aload_n (i := 0) dX4_lowestRinging_8 rfl rfl ?_
    refine PW.getf FX4_lowestRinging_11 dX4_lowestRinging_9 sm_desk rfl ?_
    refine PW.iload_n (i := 2) dX4_lowestRinging_12 rfl rfl ?_
    refine PW.aald dX4_lowestRinging_13 sm_lines (by decide) (fun _ => rfl) rfl rfl (Nat.lt_trans hs9 (by decide)) (lnA_get hs9) ?_
    refine PW.iload_n (i := 1) dX4_lowestRinging_14 rfl rfl ?_
    refine PW.callV (k := kX4_lowestRinging) (n := 1) (c_ringsFor hs9 _) dX4_lowestRinging_15 gX4_lowestRinging_X2_ringsFor rfl hd_X2_ringsFor rfl ⟨by decide, by decide⟩ ⟨rfl, rfl⟩ (Nat.le_of_ble_eq_true rfl) ⟨by decide, by decide⟩ (sm_line hs9) (by decide) rfl rfl (fun v m9 hp => ?_) (fun _ _ hx => hx.elim)
    obtain ⟨rfl, rfl⟩ := hp
    refine PW.if_eq (tgt := 23) dX4_lowestRinging_18 (by decide) (fun h18 => ?_) (fun h18 => ?_)
    · refine PW.iinc (v := nI (s + 1)) dX4_lowestRinging_23 rfl (nI_1 s) (by decide) rfl ?_
      refine PW.goto (tgt := 2) dX4_lowestRinging_26 (by decide) ?_
      exact ih (s + 1) (by omega) (by rw [← hr, lrL, if_neg (fun q => by rw [q] at h18; exact absurd h18 (by decide))])
    · refine PW.iload_n (i := 2) dX4_lowestRinging_21 rfl rfl ?_
      exact PW.iret dX4_lowestRinging_22 rfl ⟨by rw [← hr, lrL, if_pos (b2i_ne.mp h18)], rfl⟩ (by decide) (by decide)
set_option maxRecDepth 100000 in
set_option maxHeartbeats 4000000 in
theorem c_lowestRinging {M : dM} {R : pM} (c : Int32) (l9 : Launch) : pMet l9 yX4_lowestRinging kX4_lowestRinging false [.ref 0, .int c] (SM M ++ R) (fun v m9 => v = some (.int (f_lowR M c)) ∧ m9 = SM (M) ++ R) (fun _ _ => False) := by
  refine pMet.of (by decide) rfl rfl rfl (by intro v hv; simp only [List.mem_cons, List.not_mem_nil, or_false] at hv; rcases hv with rfl | rfl <;> rfl) (Nat.le_of_ble_eq_true rfl) ?_
  show PW _ _ _ _ _ 0 [some (.ref 0), some (.int c), none] [] (SM M ++ R) 0 0
  refine PW.iconst (v := 0) dX4_lowestRinging_0 (by decide) ?_
  refine PW.istore_n (i := 2) dX4_lowestRinging_1 rfl (by decide) rfl ?_
  exact lr_loop c 24 0 rfl rfl
def f_slotOf (M : dM) (l : Nat) : Int32 := if M l 1 = 3 then (if f_lowR M (nI l) = -1 then -1 else M (f_lowR M (nI l)).toNatClampNeg 4) else M l 4
set_option maxRecDepth 100000 in
set_option maxHeartbeats 4000000 in
theorem c_slotOf {M : dM} {R : pM} {l : Nat} (hl : l < 24) (l9 : Launch) : pMet l9 yX4_slotOf kX4_slotOf false [.ref 0, .ref (2 + l)] (SM M ++ R) (fun v m9 => v = some (.int (f_slotOf M l)) ∧ m9 = SM (M) ++ R) (fun _ _ => False) := by
  refine pMet.of (by decide) rfl rfl rfl (by intro v hv; simp only [List.mem_cons, List.not_mem_nil, or_false] at hv; rcases hv with rfl | rfl <;> rfl) (Nat.le_of_ble_eq_true rfl) ?_
  show PW _ _ _ _ _ 0 [some (.ref 0), some (.ref (2 + l)), none] [] (SM M ++ R) 0 0
  refine PW.aload_n (i := 1) dX4_slotOf_0 rfl rfl ?_
  refine PW.getf FX4_slotOf_64 dX4_slotOf_1 (sm_line hl) rfl ?_
  refine PW.iconst (v := 3) dX4_slotOf_4 (by decide) ?_
  refine PW.icmp_eq (tgt := 13) dX4_slotOf_5 (by decide) (fun h5 => ?_) (fun h5 => ?_)
  · refine PW.aload_n (i := 0) dX4_slotOf_13 rfl rfl ?_
    refine PW.aload_n (i := 1) dX4_slotOf_14 rfl rfl ?_
    refine PW.getf FX4_slotOf_115 dX4_slotOf_15 (sm_line hl) rfl ?_
    refine PW.callV (k := kX4_slotOf) (n := 1) (c_lowestRinging _) dX4_slotOf_18 gX4_slotOf_X4_lowestRinging rfl hd_X4_lowestRinging rfl ⟨by decide, by decide⟩ ⟨rfl, rfl⟩ (Nat.le_of_ble_eq_true rfl) ⟨by decide, by decide⟩ sm_desk (by decide) rfl rfl (fun v m9 hp => ?_) (fun _ _ hx => hx.elim)
    obtain ⟨rfl, rfl⟩ := hp
    refine PW.istore_n (i := 2) dX4_slotOf_21 rfl (by decide) rfl ?_
    refine PW.iload_n (i := 2) dX4_slotOf_22 rfl rfl ?_
    refine PW.iconst (v := (-1)) dX4_slotOf_23 (by decide) ?_
    refine PW.icmp_ne (tgt := 31) dX4_slotOf_24 (by decide) (fun h24 => ?_) (fun h24 => ?_)
    · obtain ⟨t, ht9, et, -⟩ := (lrL_cases M (nI l) 24 0).resolve_left h24
      have ht : t < 24 := by omega
      refine PW.aload_n (i := 0) dX4_slotOf_31 rfl rfl ?_
      refine PW.getf FX4_slotOf_11 dX4_slotOf_32 sm_desk rfl ?_
      refine PW.iload_n (i := 2) dX4_slotOf_35 rfl rfl ?_
      refine PW.aald dX4_slotOf_36 sm_lines (by decide) (fun _ => rfl) rfl et (Nat.lt_trans ht (by decide)) (lnA_get ht) ?_
      refine PW.getf FX4_slotOf_210 dX4_slotOf_37 (sm_line ht) rfl ?_
      exact PW.iret dX4_slotOf_40 rfl ⟨by rw [f_slotOf, if_pos h5, if_neg h24, show f_lowR M (nI l) = nI t from et, nI_clamp (by omega)], rfl⟩ (by decide) (by decide)
    · refine PW.iconst (v := (-1)) dX4_slotOf_27 (by decide) ?_
      refine PW.goto (tgt := 40) dX4_slotOf_28 (by decide) ?_
      exact PW.iret dX4_slotOf_40 rfl ⟨by simp [f_slotOf, h5, h24], rfl⟩ (by decide) (by decide)
  · refine PW.aload_n (i := 1) dX4_slotOf_8 rfl rfl ?_
    refine PW.getf FX4_slotOf_210 dX4_slotOf_9 (sm_line hl) rfl ?_
    exact PW.iret dX4_slotOf_12 rfl ⟨by simp [f_slotOf, h5], rfl⟩ (by decide) (by decide)
def f_will (M : dM) (c m : Nat) : Bool := decide (¬ m = c ∧ M m 1 = 0 ∧ M m 9 = 0)
set_option maxRecDepth 100000 in
set_option maxHeartbeats 4000000 in
theorem c_isWilling {M : dM} {R : pM} {c m : Nat} (hc : c < 24) (hm : m < 24) (l9 : Launch) : pMet l9 yX4_isWilling kX4_isWilling false [.ref (2 + c), .ref (2 + m)] (SM M ++ R) (fun v m9 => v = some (.int (b2i (f_will M c m))) ∧ m9 = SM (M) ++ R) (fun _ _ => False) := by
  refine pMet.of (by decide) rfl rfl rfl (by intro v hv; simp only [List.mem_cons, List.not_mem_nil, or_false] at hv; rcases hv with rfl | rfl <;> rfl) (Nat.le_of_ble_eq_true rfl) ?_
  show PW _ _ _ _ _ 0 [some (.ref (2 + c)), some (.ref (2 + m))] [] (SM M ++ R) 0 0
  refine PW.aload_n (i := 1) dX4_isWilling_0 rfl rfl ?_
  refine PW.aload_n (i := 0) dX4_isWilling_1 rfl rfl ?_
  refine PW.acmp_eq (tgt := 23) dX4_isWilling_2 (by decide) (sm_line hm) (sm_line hc) (fun h2 => ?_) (fun h2 => ?_)
  · have h2 : m = c := by omega
    refine PW.iconst (v := 0) dX4_isWilling_23 (by decide) ?_
    exact PW.zret (v := 0) dX4_isWilling_24 rfl rfl ⟨by simp [f_will, b2i, h2], rfl⟩ (by decide) (by decide)
  · have h2 : ¬ m = c := by omega
    refine PW.aload_n (i := 1) dX4_isWilling_5 rfl rfl ?_
    refine PW.getf FX4_isWilling_64 dX4_isWilling_6 (sm_line hm) rfl ?_
    refine PW.if_ne (tgt := 23) dX4_isWilling_9 (by decide) (fun h9 => ?_) (fun h9 => ?_)
    · refine PW.iconst (v := 0) dX4_isWilling_23 (by decide) ?_
      exact PW.zret (v := 0) dX4_isWilling_24 rfl rfl ⟨by simp [f_will, b2i, h2, h9], rfl⟩ (by decide) (by decide)
    · refine PW.aload_n (i := 1) dX4_isWilling_12 rfl rfl ?_
      refine PW.getf FX4_isWilling_182 dX4_isWilling_13 (sm_line hm) rfl ?_
      refine PW.if_ne (tgt := 23) dX4_isWilling_16 (by decide) (fun h16 => ?_) (fun h16 => ?_)
      · refine PW.iconst (v := 0) dX4_isWilling_23 (by decide) ?_
        exact PW.zret (v := 0) dX4_isWilling_24 rfl rfl ⟨by simp [f_will, b2i, h2, h9, h16], rfl⟩ (by decide) (by decide)
      · refine PW.iconst (v := 1) dX4_isWilling_19 (by decide) ?_
        refine PW.goto (tgt := 24) dX4_isWilling_20 (by decide) ?_
        exact PW.zret (v := 1) dX4_isWilling_24 rfl rfl ⟨by simp [f_will, b2i, h2, h9, h16], rfl⟩ (by decide) (by decide)
def f_can (M : dM) (c m : Nat) : Bool := f_will M c m && decide (¬ f_free M c m = -1)
theorem b2i_z {b : Bool} (h : b2i b = 0) : b = false := b2i_0.mp h
theorem b2i_t {b : Bool} (h : ¬ b2i b = 0) : b = true := b2i_ne.mp h
set_option maxRecDepth 100000 in
set_option maxHeartbeats 4000000 in
theorem c_canTake {M : dM} {R : pM} {c m : Nat} (hc : c < 24) (hm : m < 24) (l9 : Launch) : pMet l9 yX4_canTake kX4_canTake false [.ref 0, .ref (2 + c), .ref (2 + m)] (SM M ++ R) (fun v m9 => v = some (.int (b2i (f_can M c m))) ∧ m9 = SM (M) ++ R) (fun _ _ => False) := by
  refine pMet.of (by decide) rfl rfl rfl (by intro v hv; simp only [List.mem_cons, List.not_mem_nil, or_false] at hv; rcases hv with rfl | rfl | rfl <;> rfl) (Nat.le_of_ble_eq_true rfl) ?_
  show PW _ _ _ _ _ 0 [some (.ref 0), some (.ref (2 + c)), some (.ref (2 + m))] [] (SM M ++ R) 0 0
  refine PW.aload_n (i := 1) dX4_canTake_0 rfl rfl ?_
  refine PW.aload_n (i := 2) dX4_canTake_1 rfl rfl ?_
  refine PW.callS (k := kX4_canTake) (n := 2) (c_isWilling hc hm) dX4_canTake_2 gX4_canTake_X4_isWilling rfl hs_X4_isWilling rfl ⟨by decide, by decide⟩ ⟨rfl, rfl⟩ (Nat.le_of_ble_eq_true rfl) ⟨by decide, by decide⟩ rfl (fun v m9 hp => ?_) (fun _ _ hx => hx.elim)
  obtain ⟨rfl, rfl⟩ := hp
  refine PW.if_eq (tgt := 25) dX4_canTake_5 (by decide) (fun h5 => ?_) (fun h5 => ?_)
  · refine PW.iconst (v := 0) dX4_canTake_25 (by decide) ?_
    have h6 := b2i_z h5; exact PW.zret (v := 0) dX4_canTake_26 rfl rfl ⟨by simp [f_can, h6, b2i], rfl⟩ (by decide) (by decide)
  · refine PW.aload_n (i := 0) dX4_canTake_8 rfl rfl ?_
    refine PW.getf FX4_canTake_21 dX4_canTake_9 sm_desk rfl ?_
    refine PW.aload_n (i := 1) dX4_canTake_12 rfl rfl ?_
    refine PW.aload_n (i := 2) dX4_canTake_13 rfl rfl ?_
    refine PW.callV (k := kX4_canTake) (n := 2) (c_lowestFree hc hm) dX4_canTake_14 gX4_canTake_X3_lowestFree rfl hd_X3_lowestFree rfl ⟨by decide, by decide⟩ ⟨rfl, rfl⟩ (Nat.le_of_ble_eq_true rfl) ⟨by decide, by decide⟩ sm_sw (by decide) rfl rfl (fun v m9 hp => ?_) (fun _ _ hx => hx.elim)
    obtain ⟨rfl, rfl⟩ := hp
    refine PW.iconst (v := (-1)) dX4_canTake_17 (by decide) ?_
    refine PW.icmp_eq (tgt := 25) dX4_canTake_18 (by decide) (fun h18 => ?_) (fun h18 => ?_)
    · refine PW.iconst (v := 0) dX4_canTake_25 (by decide) ?_
      have h6 := b2i_t h5; exact PW.zret (v := 0) dX4_canTake_26 rfl rfl ⟨by simp [f_can, h6, h18, b2i], rfl⟩ (by decide) (by decide)
    · refine PW.iconst (v := 1) dX4_canTake_21 (by decide) ?_
      refine PW.goto (tgt := 26) dX4_canTake_22 (by decide) ?_
      have h6 := b2i_t h5; exact PW.zret (v := 1) dX4_canTake_26 rfl rfl ⟨by simp [f_can, h6, h18, b2i], rfl⟩ (by decide) (by decide)
def f_ring (M : dM) (c m : Nat) : dM := if f_free M c m = -1 then f_take M c m else up2 (up2 (f_enter (f_take M c m) m 4 (f_take M c m 39 5)) m 3 (nI c)) m 4 (f_free M c m)
set_option maxRecDepth 100000 in
set_option maxHeartbeats 4000000 in
theorem c_ring {M : dM} {R : pM} {c m : Nat} (hc : c < 24) (hm : m < 24) (l9 : Launch) : pMet l9 yX4_ring kX4_ring false [.ref 0, .ref (2 + c), .ref (2 + m)] (SM M ++ R) (fun v m9 => v = some (.int (b2i (decide (¬ f_free M c m = -1)))) ∧ m9 = SM (f_ring M c m) ++ R) (fun _ _ => False) := by
  refine pMet.of (by decide) rfl rfl rfl (by intro v hv; simp only [List.mem_cons, List.not_mem_nil, or_false] at hv; rcases hv with rfl | rfl | rfl <;> rfl) (Nat.le_of_ble_eq_true rfl) ?_
  show PW _ _ _ _ _ 0 [some (.ref 0), some (.ref (2 + c)), some (.ref (2 + m)), none] [] (SM M ++ R) 0 0
  refine PW.aload_n (i := 0) dX4_ring_0 rfl rfl ?_
  refine PW.getf FX4_ring_21 dX4_ring_1 sm_desk rfl ?_
  refine PW.aload_n (i := 1) dX4_ring_4 rfl rfl ?_
  refine PW.aload_n (i := 2) dX4_ring_5 rfl rfl ?_
  refine PW.callV (k := kX4_ring) (n := 2) (c_take hc hm) dX4_ring_6 gX4_ring_X3_take rfl hd_X3_take rfl ⟨by decide, by decide⟩ ⟨rfl, rfl⟩ (Nat.le_of_ble_eq_true rfl) ⟨by decide, by decide⟩ sm_sw (by decide) rfl rfl (fun v m9 hp => ?_) (fun _ _ hx => hx.elim)
  obtain ⟨rfl, rfl⟩ := hp
  refine PW.istore_n (i := 3) dX4_ring_9 rfl (by decide) rfl ?_
  refine PW.iload_n (i := 3) dX4_ring_10 rfl rfl ?_
  refine PW.iconst (v := (-1)) dX4_ring_11 (by decide) ?_
  refine PW.icmp_ne (tgt := 17) dX4_ring_12 (by decide) (fun h12 => ?_) (fun h12 => ?_)
  · refine PW.aload_n (i := 2) dX4_ring_17 rfl rfl ?_
    refine PW.iconst (v := 4) dX4_ring_18 (by decide) ?_
    refine PW.aload_n (i := 0) dX4_ring_19 rfl rfl ?_
    refine PW.getf FX4_ring_75 dX4_ring_20 sm_desk rfl ?_
    refine PW.callV (k := kX4_ring) (n := 2) (c_enter hm _ _) dX4_ring_23 gX4_ring_X2_enter rfl hd_X2_enter rfl ⟨by decide, by decide⟩ ⟨rfl, rfl⟩ (Nat.le_of_ble_eq_true rfl) ⟨by decide, by decide⟩ (sm_line hm) (by decide) rfl rfl (fun v m9 hp => ?_) (fun _ _ hx => hx.elim)
    obtain ⟨rfl, rfl⟩ := hp
    refine PW.aload_n (i := 2) dX4_ring_26 rfl rfl ?_
    refine PW.aload_n (i := 1) dX4_ring_27 rfl rfl ?_
    refine PW.getf FX4_ring_115 dX4_ring_28 (sm_line hc) rfl ?_
    refine PW.putf FX4_ring_106 (Fw_2_3 _) dX4_ring_31 (sm_line hm) (Nat.le_of_ble_eq_true rfl) (fun _ => rfl) (fun _ => rfl) (pu_line hm (by decide) (by decide)) ?_
    refine PW.aload_n (i := 2) dX4_ring_34 rfl rfl ?_
    refine PW.iload_n (i := 3) dX4_ring_35 rfl rfl ?_
    refine PW.putf FX4_ring_210 (Fw_2_4 _) dX4_ring_36 (sm_line hm) (Nat.le_of_ble_eq_true rfl) (fun _ => rfl) (fun _ => rfl) (pu_line hm (by decide) (by decide)) ?_
    refine PW.iconst (v := 1) dX4_ring_39 (by decide) ?_
    exact PW.zret (v := 1) dX4_ring_40 rfl rfl ⟨by simp [h12, b2i], by rw [f_ring, if_neg h12]⟩ (by decide) (by decide)
  · refine PW.iconst (v := 0) dX4_ring_15 (by decide) ?_
    exact PW.zret (v := 0) dX4_ring_16 rfl rfl ⟨by simp [h12, b2i], by rw [f_ring, if_pos h12]⟩ (by decide) (by decide)
def f_block (M : dM) (c : Nat) : dM := up2 (f_enter M c 5 (M 39 5)) 39 6 (f_enter M c 5 (M 39 5) 39 6 + 1)
set_option maxRecDepth 100000 in
set_option maxHeartbeats 4000000 in
theorem c_block {M : dM} {R : pM} {c : Nat} (hc : c < 24) (l9 : Launch) : pMet l9 yX4_block kX4_block false [.ref 0, .ref (2 + c)] (SM M ++ R) (fun v m9 => v = none ∧ m9 = SM (f_block M c) ++ R) (fun _ _ => False) := by
  refine pMet.of (by decide) rfl rfl rfl (by intro v hv; simp only [List.mem_cons, List.not_mem_nil, or_false] at hv; rcases hv with rfl | rfl <;> rfl) (Nat.le_of_ble_eq_true rfl) ?_
  show PW _ _ _ _ _ 0 [some (.ref 0), some (.ref (2 + c))] [] (SM M ++ R) 0 0
  refine PW.aload_n (i := 1) dX4_block_0 rfl rfl ?_
  refine PW.iconst (v := 5) dX4_block_1 (by decide) ?_
  refine PW.aload_n (i := 0) dX4_block_2 rfl rfl ?_
  refine PW.getf FX4_block_75 dX4_block_3 sm_desk rfl ?_
  refine PW.callV (k := kX4_block) (n := 2) (c_enter hc _ _) dX4_block_6 gX4_block_X2_enter rfl hd_X2_enter rfl ⟨by decide, by decide⟩ ⟨rfl, rfl⟩ (Nat.le_of_ble_eq_true rfl) ⟨by decide, by decide⟩ (sm_line hc) (by decide) rfl rfl (fun v m9 hp => ?_) (fun _ _ hx => hx.elim)
  obtain ⟨rfl, rfl⟩ := hp
  refine PW.aload_n (i := 0) dX4_block_9 rfl rfl ?_
  refine PW.dup dX4_block_10 rfl ?_
  refine PW.getf FX4_block_185 dX4_block_11 sm_desk rfl ?_
  refine PW.iconst (v := 1) dX4_block_14 (by decide) ?_
  refine PW.iadd dX4_block_15 ?_
  refine PW.putf FX4_block_185 (Fw_4_6 _) dX4_block_16 sm_desk (Nat.le_of_ble_eq_true rfl) (fun _ => rfl) (fun _ => rfl) pu_blk ?_
  exact PW.vret dX4_block_19 rfl ⟨rfl, rfl⟩ (by decide) (by decide)
def f_callLine (M : dM) (c m : Nat) : dM :=
  if m = c ∨ ¬ M m 9 = 0 then f_enter M c 5 (M 39 5)
  else if ¬ M m 1 = 0 then up2 (f_enter M c 5 (M 39 5)) c 5 (nI m)
  else if f_free M c m = -1 then f_block (f_ring M c m) c
  else f_enter (f_ring M c m) c 3 (f_ring M c m 39 5)
set_option maxRecDepth 100000 in
set_option maxHeartbeats 4000000 in
theorem c_callLine {M : dM} {R : pM} {c m : Nat} (hc : c < 24) (hm : m < 24) (l9 : Launch) : pMet l9 yX4_callLine kX4_callLine false [.ref 0, .ref (2 + c), .ref (2 + m)] (SM M ++ R) (fun v m9 => v = none ∧ m9 = SM (f_callLine M c m) ++ R) (fun _ _ => False) := by
  refine pMet.of (by decide) rfl rfl rfl (by intro v hv; simp only [List.mem_cons, List.not_mem_nil, or_false] at hv; rcases hv with rfl | rfl | rfl <;> rfl) (Nat.le_of_ble_eq_true rfl) ?_
  show PW _ _ _ _ _ 0 [some (.ref 0), some (.ref (2 + c)), some (.ref (2 + m))] [] (SM M ++ R) 0 0
  refine PW.aload_n (i := 2) dX4_callLine_0 rfl rfl ?_
  refine PW.aload_n (i := 1) dX4_callLine_1 rfl rfl ?_
  refine PW.acmp_eq (tgt := 12) dX4_callLine_2 (by decide) (sm_line hm) (sm_line hc) (fun h2 => ?_) (fun h2 => ?_)
  · have h2 : m = c := by omega
    refine PW.aload_n (i := 1) dX4_callLine_12 rfl rfl ?_
    refine PW.iconst (v := 5) dX4_callLine_13 (by decide) ?_
    refine PW.aload_n (i := 0) dX4_callLine_14 rfl rfl ?_
    refine PW.getf FX4_callLine_75 dX4_callLine_15 sm_desk rfl ?_
    refine PW.callV (k := kX4_callLine) (n := 2) (c_enter hc _ _) dX4_callLine_18 gX4_callLine_X2_enter rfl hd_X2_enter rfl ⟨by decide, by decide⟩ ⟨rfl, rfl⟩ (Nat.le_of_ble_eq_true rfl) ⟨by decide, by decide⟩ (sm_line hc) (by decide) rfl rfl (fun v m9 hp => ?_) (fun _ _ hx => hx.elim)
    obtain ⟨rfl, rfl⟩ := hp
    refine PW.goto (tgt := 77) dX4_callLine_21 (by decide) ?_
    exact PW.vret dX4_callLine_77 rfl ⟨rfl, by simp [f_callLine, h2]⟩ (by decide) (by decide)
  · have h2 : ¬ m = c := by omega
    refine PW.aload_n (i := 2) dX4_callLine_5 rfl rfl ?_
    refine PW.getf FX4_callLine_182 dX4_callLine_6 (sm_line hm) rfl ?_
    refine PW.if_eq (tgt := 24) dX4_callLine_9 (by decide) (fun h9 => ?_) (fun h9 => ?_)
    · refine PW.aload_n (i := 2) dX4_callLine_24 rfl rfl ?_
      refine PW.getf FX4_callLine_64 dX4_callLine_25 (sm_line hm) rfl ?_
      refine PW.if_eq (tgt := 51) dX4_callLine_28 (by decide) (fun h28 => ?_) (fun h28 => ?_)
      · refine PW.aload_n (i := 0) dX4_callLine_51 rfl rfl ?_
        refine PW.aload_n (i := 1) dX4_callLine_52 rfl rfl ?_
        refine PW.aload_n (i := 2) dX4_callLine_53 rfl rfl ?_
        refine PW.callV (k := kX4_callLine) (n := 2) (c_ring hc hm) dX4_callLine_54 gX4_callLine_X4_ring rfl hd_X4_ring rfl ⟨by decide, by decide⟩ ⟨rfl, rfl⟩ (Nat.le_of_ble_eq_true rfl) ⟨by decide, by decide⟩ sm_desk (by decide) rfl rfl (fun v m9 hp => ?_) (fun _ _ hx => hx.elim)
        obtain ⟨rfl, rfl⟩ := hp
        refine PW.if_eq (tgt := 72) dX4_callLine_57 (by decide) (fun h57 => ?_) (fun h57 => ?_)
        · have h58 : f_free M c m = -1 := Decidable.of_not_not (of_decide_eq_false (b2i_z h57))
          refine PW.aload_n (i := 0) dX4_callLine_72 rfl rfl ?_
          refine PW.aload_n (i := 1) dX4_callLine_73 rfl rfl ?_
          refine PW.callV (k := kX4_callLine) (n := 1) (c_block hc) dX4_callLine_74 gX4_callLine_X4_block rfl hd_X4_block rfl ⟨by decide, by decide⟩ ⟨rfl, rfl⟩ (Nat.le_of_ble_eq_true rfl) ⟨by decide, by decide⟩ sm_desk (by decide) rfl rfl (fun v m9 hp => ?_) (fun _ _ hx => hx.elim)
          obtain ⟨rfl, rfl⟩ := hp
          exact PW.vret dX4_callLine_77 rfl ⟨rfl, by simp [f_callLine, h2, h9, h28, h58]⟩ (by decide) (by decide)
        · have h58 : ¬ f_free M c m = -1 := of_decide_eq_true (b2i_t h57)
          refine PW.aload_n (i := 1) dX4_callLine_60 rfl rfl ?_
          refine PW.iconst (v := 3) dX4_callLine_61 (by decide) ?_
          refine PW.aload_n (i := 0) dX4_callLine_62 rfl rfl ?_
          refine PW.getf FX4_callLine_75 dX4_callLine_63 sm_desk rfl ?_
          refine PW.callV (k := kX4_callLine) (n := 2) (c_enter hc _ _) dX4_callLine_66 gX4_callLine_X2_enter rfl hd_X2_enter rfl ⟨by decide, by decide⟩ ⟨rfl, rfl⟩ (Nat.le_of_ble_eq_true rfl) ⟨by decide, by decide⟩ (sm_line hc) (by decide) rfl rfl (fun v m9 hp => ?_) (fun _ _ hx => hx.elim)
          obtain ⟨rfl, rfl⟩ := hp
          refine PW.goto (tgt := 77) dX4_callLine_69 (by decide) ?_
          exact PW.vret dX4_callLine_77 rfl ⟨rfl, by simp [f_callLine, h2, h9, h28, h58]⟩ (by decide) (by decide)
      · refine PW.aload_n (i := 1) dX4_callLine_31 rfl rfl ?_
        refine PW.iconst (v := 5) dX4_callLine_32 (by decide) ?_
        refine PW.aload_n (i := 0) dX4_callLine_33 rfl rfl ?_
        refine PW.getf FX4_callLine_75 dX4_callLine_34 sm_desk rfl ?_
        refine PW.callV (k := kX4_callLine) (n := 2) (c_enter hc _ _) dX4_callLine_37 gX4_callLine_X2_enter rfl hd_X2_enter rfl ⟨by decide, by decide⟩ ⟨rfl, rfl⟩ (Nat.le_of_ble_eq_true rfl) ⟨by decide, by decide⟩ (sm_line hc) (by decide) rfl rfl (fun v m9 hp => ?_) (fun _ _ hx => hx.elim)
        obtain ⟨rfl, rfl⟩ := hp
        refine PW.aload_n (i := 1) dX4_callLine_40 rfl rfl ?_
        refine PW.aload_n (i := 2) dX4_callLine_41 rfl rfl ?_
        refine PW.getf FX4_callLine_115 dX4_callLine_42 (sm_line hm) rfl ?_
        refine PW.putf FX4_callLine_98 (Fw_2_5 _) dX4_callLine_45 (sm_line hc) (Nat.le_of_ble_eq_true rfl) (fun _ => rfl) (fun _ => rfl) (pu_line hc (by decide) (by decide)) ?_
        refine PW.goto (tgt := 77) dX4_callLine_48 (by decide) ?_
        exact PW.vret dX4_callLine_77 rfl ⟨rfl, by simp [f_callLine, h2, h9, h28]⟩ (by decide) (by decide)
    · refine PW.aload_n (i := 1) dX4_callLine_12 rfl rfl ?_
      refine PW.iconst (v := 5) dX4_callLine_13 (by decide) ?_
      refine PW.aload_n (i := 0) dX4_callLine_14 rfl rfl ?_
      refine PW.getf FX4_callLine_75 dX4_callLine_15 sm_desk rfl ?_
      refine PW.callV (k := kX4_callLine) (n := 2) (c_enter hc _ _) dX4_callLine_18 gX4_callLine_X2_enter rfl hd_X2_enter rfl ⟨by decide, by decide⟩ ⟨rfl, rfl⟩ (Nat.le_of_ble_eq_true rfl) ⟨by decide, by decide⟩ (sm_line hc) (by decide) rfl rfl (fun v m9 hp => ?_) (fun _ _ hx => hx.elim)
      obtain ⟨rfl, rfl⟩ := hp
      refine PW.goto (tgt := 77) dX4_callLine_21 (by decide) ?_
      exact PW.vret dX4_callLine_77 rfl ⟨rfl, by simp [f_callLine, h2, h9]⟩ (by decide) (by decide)
