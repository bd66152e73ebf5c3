/-! THE LAW'S HELPERS: one call of the desk, what it answered, or what it threw -/
theorem sm_out {M N : dM} {R : pM} {c : pC} : (SM M ++ (MM N ++ (c :: R)))[65]? = some c := by
  rw [List.getElem?_append_right (by rw [SM_len]; decide), SM_len, List.getElem?_append_right (by rw [MM_len]; decide), MM_len]
  rfl
theorem pu_out {M N : dM} {R : pM} {c d : pC} : (SM M ++ (MM N ++ (c :: R))).set 65 d = SM M ++ (MM N ++ (d :: R)) := by
  rw [List.set_append_right _ _ (by rw [SM_len]; decide), SM_len, List.set_append_right _ _ (by rw [MM_len]; decide), MM_len]
  rfl
def HX (ok : Int32 → dM → Prop) (b1 b2 : Prop) (M : dM) (r a : Int32) (M' : dM) : Prop := (r = 0 ∧ ok a M') ∨ (r = 1 ∧ b1 ∧ M = M') ∨ (r = 2 ∧ b2 ∧ M = M')
abbrev kL_up : pK := (RL, cL_up, 4, wsL_up, { frames := 9, cells := 2, slots := 12, locals := 270 }, (some .int), tableOf [(0, 9, 12, 13), (0, 9, 15, 15)], 2, 12, pNo)
abbrev kL_down : pK := (RL, cL_down, 3, wsL_down, { frames := 9, cells := 2, slots := 12, locals := 270 }, (some .int), tableOf [(0, 5, 8, 13), (0, 5, 11, 15)], 2, 12, pNo)
abbrev kL_digit : pK := (RL, cL_digit, 5, wsL_digit, { frames := 9, cells := 2, slots := 12, locals := 270 }, (some .int), tableOf [(0, 10, 13, 13)], 2, 12, pNo)
abbrev kL_camp : pK := (RL, cL_camp, 4, wsL_camp, { frames := 9, cells := 2, slots := 12, locals := 270 }, (some .int), tableOf [(0, 9, 12, 13), (0, 9, 15, 15)], 2, 12, pNo)
abbrev kL_park : pK := (RL, cL_park, 5, wsL_park, { frames := 9, cells := 3, slots := 18, locals := 270 }, (some .int), tableOf [(0, 10, 13, 13), (0, 10, 17, 15)], 3, 18, pNo)
abbrev kL_transfer : pK := (RL, cL_transfer, 5, wsL_transfer, { frames := 9, cells := 3, slots := 18, locals := 270 }, (some .int), tableOf [(0, 10, 13, 13), (0, 10, 17, 15)], 3, 18, pNo)
abbrev kL_tick : pK := (RL, cL_tick, 4, wsL_tick, { frames := 9, cells := 1, slots := 6, locals := 270 }, (some .int), tableOf [(0, 9, 12, 13)], 1, 6, pNo)
abbrev kL_group : pK := (RL, cL_group, 6, wsL_group, { frames := 9, cells := 3, slots := 18, locals := 270 }, (some .int), tableOf [(0, 12, 15, 13), (0, 12, 19, 15)], 3, 18, pNo)
abbrev kL_slot : pK := (RL, cL_slot, 5, wsL_slot, { frames := 9, cells := 2, slots := 12, locals := 270 }, (some .int), tableOf [(0, 7, 10, 13), (0, 7, 14, 15)], 2, 12, pNo)
abbrev kL_carries : pK := (RL, cL_carries, 5, wsL_carries, { frames := 9, cells := 1, slots := 6, locals := 270 }, (some .int), tableOf [(0, 10, 13, 13)], 1, 6, pNo)
abbrev kL_line : pK := (RL, cL_line, 5, wsL_line, { frames := 9, cells := 2, slots := 12, locals := 270 }, (some .int), tableOf [(0, 10, 13, 13)], 2, 12, pNo)
abbrev kL_count : pK := (RL, cL_count, 4, wsL_count, { frames := 9, cells := 1, slots := 6, locals := 270 }, (some .int), tableOf [(0, 9, 12, 13)], 1, 6, pNo)
abbrev kL_book : pK := (RL, cL_book, 5, wsL_book, { frames := 9, cells := 2, slots := 12, locals := 270 }, (some .int), tableOf [(0, 10, 13, 13), (0, 10, 17, 57)], 2, 12, pNo)
def H_up (M : dM) (x : Int32) : Int32 → Int32 → dM → Prop := HX (fun a M' => ∃ l, l < 24 ∧ x = nI l ∧ f_hook M l = true ∧ a = f_up M l l 1 ∧ M' = f_up M l) (f_isLine x = false) (∃ l, l < 24 ∧ x = nI l ∧ f_hook M l = false) M
set_option maxRecDepth 100000 in
set_option maxHeartbeats 4000000 in
theorem h_up {M N : dM} {R : pM} (x : Int32) (hS : Sf M) (w : Int64) (l9 : Launch) : pMet l9 yL_up kL_up false [.ref 0, .int x, .ref 65] (SM M ++ (MM N ++ ((101, [.long w]) :: R))) (fun v m9 => ∃ (r a : Int32) (M' : dM) (w9 : Int64), H_up M x r a M' ∧ v = some (.int r) ∧ m9 = SM M' ++ (MM N ++ ((101, [.long w9]) :: R)) ∧ (r = 0 → w9 = a.toInt64)) (fun _ _ => False) := by
  refine pMet.ofH (hhl := [(0, 9, 12, 13), (0, 9, 15, 15)]) (by decide) rfl rfl rfl (by intro v hv; simp only [List.mem_cons, List.not_mem_nil, or_false] at hv; rcases hv with rfl | rfl | rfl <;> rfl) (Nat.le_of_ble_eq_true rfl) ?_
  show PW _ _ _ _ _ 0 [some (.ref 0), some (.int x), some (.ref 65), none] [] _ 0 0
  refine PW.aload_n (i := 2) dL_up_0 rfl rfl ?_
  refine PW.iconst (v := 0) dL_up_1 (by decide) ?_
  refine PW.aload_n (i := 0) dL_up_2 rfl rfl ?_
  refine PW.iload_n (i := 1) dL_up_3 rfl rfl ?_
  refine PW.callV (k := kL_up) (n := 1) (c_up hS x) dL_up_4 gL_up_X4_up rfl hd_X4_up rfl ⟨by decide, by decide⟩ ⟨rfl, rfl⟩ (Nat.le_of_ble_eq_true rfl) ⟨by decide, by decide⟩ sm_desk (by decide) rfl rfl (fun v m9 hp => ?_) (fun E m9 hx => ?_)
  rotate_left
  · obtain ⟨rfl, ⟨rfl, h1⟩ | ⟨rfl, h1⟩⟩ := hx
    · refine PT.catch1n (x := ⟨0, 9, 12, 13⟩) (hp := 12) (i := 3) rfl (by decide) (by decide) (by decide +kernel) (by decide +kernel) rfl dL_up_12 rfl (by decide) rfl ?_
      refine PW.iconst (v := 1) dL_up_13 (by decide) ?_
      exact PW.iret dL_up_14 rfl ⟨1, 0, M, w, Or.inr (Or.inl ⟨rfl, h1, rfl⟩), rfl, rfl, fun h => absurd h (by decide)⟩ (by decide) (by decide)
    · refine PT.catch2n (x := ⟨0, 9, 12, 13⟩) (y := ⟨0, 9, 15, 15⟩) (hp := 15) (i := 3) rfl (by decide) (by decide) (by decide +kernel) (by decide) (by decide) (by decide +kernel) (by decide +kernel) (by decide +kernel) rfl dL_up_15 rfl (by decide) rfl ?_
      refine PW.iconst (v := 2) dL_up_16 (by decide) ?_
      exact PW.iret dL_up_17 rfl ⟨2, 0, M, w, Or.inr (Or.inr ⟨rfl, h1, rfl⟩), rfl, rfl, fun h => absurd h (by decide)⟩ (by decide) (by decide)
  obtain ⟨l, hl, rfl, h1, rfl, rfl⟩ := hp
  refine PW.i2l dL_up_7 ?_
  refine PW.last (n := 0) dL_up_8 sm_out rfl (by decide) Nat.zero_lt_one pu_out ?_
  refine PW.goto (tgt := 18) dL_up_9 (by decide) ?_
  refine PW.iconst (v := 0) dL_up_18 (by decide) ?_
  exact PW.iret dL_up_19 rfl ⟨0, (f_up M l l 1), (f_up M l), _, Or.inl ⟨rfl, ⟨l, hl, rfl, h1, rfl, rfl⟩⟩, rfl, rfl, fun _ => rfl⟩ (by decide) (by decide)
def H_down (M : dM) (x : Int32) : Int32 → Int32 → dM → Prop := HX (fun a M' => ∃ l, l < 24 ∧ x = nI l ∧ f_hook M l = false ∧ M' = f_down M l) (f_isLine x = false) (∃ l, l < 24 ∧ x = nI l ∧ f_hook M l = true) M
set_option maxRecDepth 100000 in
set_option maxHeartbeats 4000000 in
theorem h_down {M : dM} {R : pM} (x : Int32) (hS : Sf M) (hw : M 37 1 = nI (wr M) ∧ wr M < 100000) (l9 : Launch) : pMet l9 yL_down kL_down false [.ref 0, .int x] (SM M ++ R) (fun v m9 => ∃ (r a : Int32) (M' : dM), H_down M x r a M' ∧ v = some (.int r) ∧ m9 = SM M' ++ R) (fun _ _ => False) := by
  refine pMet.ofH (hhl := [(0, 5, 8, 13), (0, 5, 11, 15)]) (by decide) rfl rfl rfl (by intro v hv; simp only [List.mem_cons, List.not_mem_nil, or_false] at hv; rcases hv with rfl | rfl <;> rfl) (Nat.le_of_ble_eq_true rfl) ?_
  show PW _ _ _ _ _ 0 [some (.ref 0), some (.int x), none] [] _ 0 0
  refine PW.aload_n (i := 0) dL_down_0 rfl rfl ?_
  refine PW.iload_n (i := 1) dL_down_1 rfl rfl ?_
  refine PW.callV (k := kL_down) (n := 1) (c_down hS hw x) dL_down_2 gL_down_X4_down rfl hd_X4_down rfl ⟨by decide, by decide⟩ ⟨rfl, rfl⟩ (Nat.le_of_ble_eq_true rfl) ⟨by decide, by decide⟩ sm_desk (by decide) rfl rfl (fun v m9 hp => ?_) (fun E m9 hx => ?_)
  rotate_left
  · obtain ⟨rfl, ⟨rfl, h1⟩ | ⟨rfl, h1⟩⟩ := hx
    · refine PT.catch1n (x := ⟨0, 5, 8, 13⟩) (hp := 8) (i := 2) rfl (by decide) (by decide) (by decide +kernel) (by decide +kernel) rfl dL_down_8 rfl (by decide) rfl ?_
      refine PW.iconst (v := 1) dL_down_9 (by decide) ?_
      exact PW.iret dL_down_10 rfl ⟨1, 0, M, Or.inr (Or.inl ⟨rfl, h1, rfl⟩), rfl, rfl⟩ (by decide) (by decide)
    · refine PT.catch2n (x := ⟨0, 5, 8, 13⟩) (y := ⟨0, 5, 11, 15⟩) (hp := 11) (i := 2) rfl (by decide) (by decide) (by decide +kernel) (by decide) (by decide) (by decide +kernel) (by decide +kernel) (by decide +kernel) rfl dL_down_11 rfl (by decide) rfl ?_
      refine PW.iconst (v := 2) dL_down_12 (by decide) ?_
      exact PW.iret dL_down_13 rfl ⟨2, 0, M, Or.inr (Or.inr ⟨rfl, h1, rfl⟩), rfl, rfl⟩ (by decide) (by decide)
  obtain ⟨l, hl, rfl, h1, rfl, rfl⟩ := hp
  refine PW.goto (tgt := 14) dL_down_5 (by decide) ?_
  refine PW.iconst (v := 0) dL_down_14 (by decide) ?_
  exact PW.iret dL_down_15 rfl ⟨0, 0, (f_down M l), Or.inl ⟨rfl, ⟨l, hl, rfl, h1, rfl⟩⟩, rfl, rfl⟩ (by decide) (by decide)
def H_digit (M : dM) (x d : Int32) : Int32 → Int32 → dM → Prop := HX (fun a M' => ∃ l, l < 24 ∧ x = nI l ∧ okD d ∧ a = f_digit M l d l 1 ∧ M' = f_digit M l d) (f_isLine x = false ∨ ¬ okD d) (False) M
set_option maxRecDepth 100000 in
set_option maxHeartbeats 4000000 in
theorem h_digit {M N : dM} {R : pM} (x d : Int32) (hS : Sf M) (w : Int64) (l9 : Launch) : pMet l9 yL_digit kL_digit false [.ref 0, .int x, .int d, .ref 65] (SM M ++ (MM N ++ ((101, [.long w]) :: R))) (fun v m9 => ∃ (r a : Int32) (M' : dM) (w9 : Int64), H_digit M x d r a M' ∧ v = some (.int r) ∧ m9 = SM M' ++ (MM N ++ ((101, [.long w9]) :: R)) ∧ (r = 0 → w9 = a.toInt64)) (fun _ _ => False) := by
  refine pMet.ofH (hhl := [(0, 10, 13, 13)]) (by decide) rfl rfl rfl (by intro v hv; simp only [List.mem_cons, List.not_mem_nil, or_false] at hv; rcases hv with rfl | rfl | rfl | rfl <;> rfl) (Nat.le_of_ble_eq_true rfl) ?_
  show PW _ _ _ _ _ 0 [some (.ref 0), some (.int x), some (.int d), some (.ref 65), none] [] _ 0 0
  refine PW.aload_n (i := 3) dL_digit_0 rfl rfl ?_
  refine PW.iconst (v := 0) dL_digit_1 (by decide) ?_
  refine PW.aload_n (i := 0) dL_digit_2 rfl rfl ?_
  refine PW.iload_n (i := 1) dL_digit_3 rfl rfl ?_
  refine PW.iload_n (i := 2) dL_digit_4 rfl rfl ?_
  refine PW.callV (k := kL_digit) (n := 2) (c_digit hS x d) dL_digit_5 gL_digit_X4_digit rfl hd_X4_digit rfl ⟨by decide, by decide⟩ ⟨rfl, rfl⟩ (Nat.le_of_ble_eq_true rfl) ⟨by decide, by decide⟩ sm_desk (by decide) rfl rfl (fun v m9 hp => ?_) (fun E m9 hx => ?_)
  rotate_left
  · obtain ⟨rfl, ⟨rfl, h1⟩ | ⟨rfl, h1⟩⟩ := hx
    · refine PT.catch1 (x := ⟨0, 10, 13, 13⟩) (hp := 13) (i := 4) rfl (by decide) (by decide) (by decide +kernel) (by decide +kernel) rfl dL_digit_13 (by decide) rfl ?_
      refine PW.iconst (v := 1) dL_digit_15 (by decide) ?_
      exact PW.iret dL_digit_16 rfl ⟨1, 0, M, w, Or.inr (Or.inl ⟨rfl, h1, rfl⟩), rfl, rfl, fun h => absurd h (by decide)⟩ (by decide) (by decide)
    · exact h1.elim
  obtain ⟨l, hl, rfl, h1, rfl, rfl⟩ := hp
  refine PW.i2l dL_digit_8 ?_
  refine PW.last (n := 0) dL_digit_9 sm_out rfl (by decide) Nat.zero_lt_one pu_out ?_
  refine PW.goto (tgt := 17) dL_digit_10 (by decide) ?_
  refine PW.iconst (v := 0) dL_digit_17 (by decide) ?_
  exact PW.iret dL_digit_18 rfl ⟨0, (f_digit M l d l 1), (f_digit M l d), _, Or.inl ⟨rfl, ⟨l, hl, rfl, h1, rfl, rfl⟩⟩, rfl, rfl, fun _ => rfl⟩ (by decide) (by decide)
def H_camp (M : dM) (x : Int32) : Int32 → Int32 → dM → Prop := HX (fun a M' => ∃ l, l < 24 ∧ x = nI l ∧ okC M l ∧ a = M l 5 ∧ M' = f_camp M l) (f_isLine x = false) (∃ l, l < 24 ∧ x = nI l ∧ ¬ okC M l) M
set_option maxRecDepth 100000 in
set_option maxHeartbeats 4000000 in
theorem h_camp {M N : dM} {R : pM} (x : Int32) (hS : Sf M) (w : Int64) (l9 : Launch) : pMet l9 yL_camp kL_camp false [.ref 0, .int x, .ref 65] (SM M ++ (MM N ++ ((101, [.long w]) :: R))) (fun v m9 => ∃ (r a : Int32) (M' : dM) (w9 : Int64), H_camp M x r a M' ∧ v = some (.int r) ∧ m9 = SM M' ++ (MM N ++ ((101, [.long w9]) :: R)) ∧ (r = 0 → w9 = a.toInt64)) (fun _ _ => False) := by
  refine pMet.ofH (hhl := [(0, 9, 12, 13), (0, 9, 15, 15)]) (by decide) rfl rfl rfl (by intro v hv; simp only [List.mem_cons, List.not_mem_nil, or_false] at hv; rcases hv with rfl | rfl | rfl <;> rfl) (Nat.le_of_ble_eq_true rfl) ?_
  show PW _ _ _ _ _ 0 [some (.ref 0), some (.int x), some (.ref 65), none] [] _ 0 0
  refine PW.aload_n (i := 2) dL_camp_0 rfl rfl ?_
  refine PW.iconst (v := 0) dL_camp_1 (by decide) ?_
  refine PW.aload_n (i := 0) dL_camp_2 rfl rfl ?_
  refine PW.iload_n (i := 1) dL_camp_3 rfl rfl ?_
  refine PW.callV (k := kL_camp) (n := 1) (c_camp hS x) dL_camp_4 gL_camp_X4_camp rfl hd_X4_camp rfl ⟨by decide, by decide⟩ ⟨rfl, rfl⟩ (Nat.le_of_ble_eq_true rfl) ⟨by decide, by decide⟩ sm_desk (by decide) rfl rfl (fun v m9 hp => ?_) (fun E m9 hx => ?_)
  rotate_left
  · obtain ⟨rfl, ⟨rfl, h1⟩ | ⟨rfl, h1⟩⟩ := hx
    · refine PT.catch1n (x := ⟨0, 9, 12, 13⟩) (hp := 12) (i := 3) rfl (by decide) (by decide) (by decide +kernel) (by decide +kernel) rfl dL_camp_12 rfl (by decide) rfl ?_
      refine PW.iconst (v := 1) dL_camp_13 (by decide) ?_
      exact PW.iret dL_camp_14 rfl ⟨1, 0, M, w, Or.inr (Or.inl ⟨rfl, h1, rfl⟩), rfl, rfl, fun h => absurd h (by decide)⟩ (by decide) (by decide)
    · refine PT.catch2n (x := ⟨0, 9, 12, 13⟩) (y := ⟨0, 9, 15, 15⟩) (hp := 15) (i := 3) rfl (by decide) (by decide) (by decide +kernel) (by decide) (by decide) (by decide +kernel) (by decide +kernel) (by decide +kernel) rfl dL_camp_15 rfl (by decide) rfl ?_
      refine PW.iconst (v := 2) dL_camp_16 (by decide) ?_
      exact PW.iret dL_camp_17 rfl ⟨2, 0, M, w, Or.inr (Or.inr ⟨rfl, h1, rfl⟩), rfl, rfl, fun h => absurd h (by decide)⟩ (by decide) (by decide)
  obtain ⟨l, hl, rfl, h1, rfl, rfl⟩ := hp
  refine PW.i2l dL_camp_7 ?_
  refine PW.last (n := 0) dL_camp_8 sm_out rfl (by decide) Nat.zero_lt_one pu_out ?_
  refine PW.goto (tgt := 18) dL_camp_9 (by decide) ?_
  refine PW.iconst (v := 0) dL_camp_18 (by decide) ?_
  exact PW.iret dL_camp_19 rfl ⟨0, (M l 5), (f_camp M l), _, Or.inl ⟨rfl, ⟨l, hl, rfl, h1, rfl, rfl⟩⟩, rfl, rfl, fun _ => rfl⟩ (by decide) (by decide)
def H_park (M : dM) (x y : Int32) : Int32 → Int32 → dM → Prop := HX (fun a M' => ∃ l p, l < 24 ∧ p < 4 ∧ x = nI l ∧ y = nI p ∧ (M l 1 = 6 ∧ M 36 p = -1) ∧ a = nI (oth M l) ∧ M' = f_park M l p) (f_isLine x = false ∨ ¬ okPl y) (∃ l p, l < 24 ∧ p < 4 ∧ x = nI l ∧ y = nI p ∧ ¬ (M l 1 = 6 ∧ M 36 p = -1)) M
set_option maxRecDepth 100000 in
set_option maxHeartbeats 4000000 in
theorem h_park {M N : dM} {R : pM} (x y : Int32) (hS : Sf M) (hw : M 37 1 = nI (wr M) ∧ wr M < 100000) (w : Int64) (l9 : Launch) : pMet l9 yL_park kL_park false [.ref 0, .int x, .int y, .ref 65] (SM M ++ (MM N ++ ((101, [.long w]) :: R))) (fun v m9 => ∃ (r a : Int32) (M' : dM) (w9 : Int64), H_park M x y r a M' ∧ v = some (.int r) ∧ m9 = SM M' ++ (MM N ++ ((101, [.long w9]) :: R)) ∧ (r = 0 → w9 = a.toInt64)) (fun _ _ => False) := by
  refine pMet.ofH (hhl := [(0, 10, 13, 13), (0, 10, 17, 15)]) (by decide) rfl rfl rfl (by intro v hv; simp only [List.mem_cons, List.not_mem_nil, or_false] at hv; rcases hv with rfl | rfl | rfl | rfl <;> rfl) (Nat.le_of_ble_eq_true rfl) ?_
  show PW _ _ _ _ _ 0 [some (.ref 0), some (.int x), some (.int y), some (.ref 65), none] [] _ 0 0
  refine PW.aload_n (i := 3) dL_park_0 rfl rfl ?_
  refine PW.iconst (v := 0) dL_park_1 (by decide) ?_
  refine PW.aload_n (i := 0) dL_park_2 rfl rfl ?_
  refine PW.iload_n (i := 1) dL_park_3 rfl rfl ?_
  refine PW.iload_n (i := 2) dL_park_4 rfl rfl ?_
  refine PW.callV (k := kL_park) (n := 2) (c_park hS hw x y) dL_park_5 gL_park_X4_park rfl hd_X4_park rfl ⟨by decide, by decide⟩ ⟨rfl, rfl⟩ (Nat.le_of_ble_eq_true rfl) ⟨by decide, by decide⟩ sm_desk (by decide) rfl rfl (fun v m9 hp => ?_) (fun E m9 hx => ?_)
  rotate_left
  · obtain ⟨rfl, ⟨rfl, h1⟩ | ⟨rfl, h1⟩⟩ := hx
    · refine PT.catch1 (x := ⟨0, 10, 13, 13⟩) (hp := 13) (i := 4) rfl (by decide) (by decide) (by decide +kernel) (by decide +kernel) rfl dL_park_13 (by decide) rfl ?_
      refine PW.iconst (v := 1) dL_park_15 (by decide) ?_
      exact PW.iret dL_park_16 rfl ⟨1, 0, M, w, Or.inr (Or.inl ⟨rfl, h1, rfl⟩), rfl, rfl, fun h => absurd h (by decide)⟩ (by decide) (by decide)
    · refine PT.catch2 (x := ⟨0, 10, 13, 13⟩) (y := ⟨0, 10, 17, 15⟩) (hp := 17) (i := 4) rfl (by decide) (by decide) (by decide +kernel) (by decide) (by decide) (by decide +kernel) (by decide +kernel) (by decide +kernel) rfl dL_park_17 (by decide) rfl ?_
      refine PW.iconst (v := 2) dL_park_19 (by decide) ?_
      exact PW.iret dL_park_20 rfl ⟨2, 0, M, w, Or.inr (Or.inr ⟨rfl, h1, rfl⟩), rfl, rfl, fun h => absurd h (by decide)⟩ (by decide) (by decide)
  obtain ⟨l, p, hl, h2, rfl, rfl, h1, rfl, rfl⟩ := hp
  refine PW.i2l dL_park_8 ?_
  refine PW.last (n := 0) dL_park_9 sm_out rfl (by decide) Nat.zero_lt_one pu_out ?_
  refine PW.goto (tgt := 21) dL_park_10 (by decide) ?_
  refine PW.iconst (v := 0) dL_park_21 (by decide) ?_
  exact PW.iret dL_park_22 rfl ⟨0, (nI (oth M l)), (f_park M l p), _, Or.inl ⟨rfl, ⟨l, p, hl, h2, rfl, rfl, h1, rfl, rfl⟩⟩, rfl, rfl, fun _ => rfl⟩ (by decide) (by decide)
def H_transfer (M : dM) (x y : Int32) : Int32 → Int32 → dM → Prop := HX (fun a M' => ∃ l, l < 24 ∧ x = nI l ∧ (M l 1 = 6 ∧ okN y) ∧ a = f_trans M l y (oth M l) 1 ∧ M' = f_trans M l y) (f_isLine x = false ∨ ¬ okN y) (∃ l, l < 24 ∧ x = nI l ∧ okN y ∧ ¬ M l 1 = 6) M
set_option maxRecDepth 100000 in
set_option maxHeartbeats 4000000 in
theorem h_transfer {M N : dM} {R : pM} (x y : Int32) (hS : Sf M) (hw : M 37 1 = nI (wr M) ∧ wr M < 100000) (w : Int64) (l9 : Launch) : pMet l9 yL_transfer kL_transfer false [.ref 0, .int x, .int y, .ref 65] (SM M ++ (MM N ++ ((101, [.long w]) :: R))) (fun v m9 => ∃ (r a : Int32) (M' : dM) (w9 : Int64), H_transfer M x y r a M' ∧ v = some (.int r) ∧ m9 = SM M' ++ (MM N ++ ((101, [.long w9]) :: R)) ∧ (r = 0 → w9 = a.toInt64)) (fun _ _ => False) := by
  refine pMet.ofH (hhl := [(0, 10, 13, 13), (0, 10, 17, 15)]) (by decide) rfl rfl rfl (by intro v hv; simp only [List.mem_cons, List.not_mem_nil, or_false] at hv; rcases hv with rfl | rfl | rfl | rfl <;> rfl) (Nat.le_of_ble_eq_true rfl) ?_
  show PW _ _ _ _ _ 0 [some (.ref 0), some (.int x), some (.int y), some (.ref 65), none] [] _ 0 0
  refine PW.aload_n (i := 3) dL_transfer_0 rfl rfl ?_
  refine PW.iconst (v := 0) dL_transfer_1 (by decide) ?_
  refine PW.aload_n (i := 0) dL_transfer_2 rfl rfl ?_
  refine PW.iload_n (i := 1) dL_transfer_3 rfl rfl ?_
  refine PW.iload_n (i := 2) dL_transfer_4 rfl rfl ?_
  refine PW.callV (k := kL_transfer) (n := 2) (c_transfer hS hw x y) dL_transfer_5 gL_transfer_X4_transfer rfl hd_X4_transfer rfl ⟨by decide, by decide⟩ ⟨rfl, rfl⟩ (Nat.le_of_ble_eq_true rfl) ⟨by decide, by decide⟩ sm_desk (by decide) rfl rfl (fun v m9 hp => ?_) (fun E m9 hx => ?_)
  rotate_left
  · obtain ⟨rfl, ⟨rfl, h1⟩ | ⟨rfl, h1⟩⟩ := hx
    · refine PT.catch1 (x := ⟨0, 10, 13, 13⟩) (hp := 13) (i := 4) rfl (by decide) (by decide) (by decide +kernel) (by decide +kernel) rfl dL_transfer_13 (by decide) rfl ?_
      refine PW.iconst (v := 1) dL_transfer_15 (by decide) ?_
      exact PW.iret dL_transfer_16 rfl ⟨1, 0, M, w, Or.inr (Or.inl ⟨rfl, h1, rfl⟩), rfl, rfl, fun h => absurd h (by decide)⟩ (by decide) (by decide)
    · refine PT.catch2 (x := ⟨0, 10, 13, 13⟩) (y := ⟨0, 10, 17, 15⟩) (hp := 17) (i := 4) rfl (by decide) (by decide) (by decide +kernel) (by decide) (by decide) (by decide +kernel) (by decide +kernel) (by decide +kernel) rfl dL_transfer_17 (by decide) rfl ?_
      refine PW.iconst (v := 2) dL_transfer_19 (by decide) ?_
      exact PW.iret dL_transfer_20 rfl ⟨2, 0, M, w, Or.inr (Or.inr ⟨rfl, h1, rfl⟩), rfl, rfl, fun h => absurd h (by decide)⟩ (by decide) (by decide)
  obtain ⟨l, hl, rfl, h1, rfl, rfl⟩ := hp
  refine PW.i2l dL_transfer_8 ?_
  refine PW.last (n := 0) dL_transfer_9 sm_out rfl (by decide) Nat.zero_lt_one pu_out ?_
  refine PW.goto (tgt := 21) dL_transfer_10 (by decide) ?_
  refine PW.iconst (v := 0) dL_transfer_21 (by decide) ?_
  exact PW.iret dL_transfer_22 rfl ⟨0, (f_trans M l y (oth M l) 1), (f_trans M l y), _, Or.inl ⟨rfl, ⟨l, hl, rfl, h1, rfl, rfl⟩⟩, rfl, rfl, fun _ => rfl⟩ (by decide) (by decide)
def H_tick (M : dM) (x : Int32) : Int32 → Int32 → dM → Prop := HX (fun a M' => okT x ∧ a = f_tick M x 39 5 ∧ M' = f_tick M x) (¬ okT x) (False) M
set_option maxRecDepth 100000 in
set_option maxHeartbeats 4000000 in
theorem h_tick {M N : dM} {R : pM} (x : Int32) (hS : Sf M) (ht : okT x → M 39 5 + x < 2147483647) (w : Int64) (l9 : Launch) : pMet l9 yL_tick kL_tick false [.ref 0, .int x, .ref 65] (SM M ++ (MM N ++ ((101, [.long w]) :: R))) (fun v m9 => ∃ (r a : Int32) (M' : dM) (w9 : Int64), H_tick M x r a M' ∧ v = some (.int r) ∧ m9 = SM M' ++ (MM N ++ ((101, [.long w9]) :: R)) ∧ (r = 0 → w9 = a.toInt64)) (fun _ _ => False) := by
  refine pMet.ofH (hhl := [(0, 9, 12, 13)]) (by decide) rfl rfl rfl (by intro v hv; simp only [List.mem_cons, List.not_mem_nil, or_false] at hv; rcases hv with rfl | rfl | rfl <;> rfl) (Nat.le_of_ble_eq_true rfl) ?_
  show PW _ _ _ _ _ 0 [some (.ref 0), some (.int x), some (.ref 65), none] [] _ 0 0
  refine PW.aload_n (i := 2) dL_tick_0 rfl rfl ?_
  refine PW.iconst (v := 0) dL_tick_1 (by decide) ?_
  refine PW.aload_n (i := 0) dL_tick_2 rfl rfl ?_
  refine PW.iload_n (i := 1) dL_tick_3 rfl rfl ?_
  refine PW.callV (k := kL_tick) (n := 1) (c_tick hS x ht) dL_tick_4 gL_tick_X4_tick rfl hd_X4_tick rfl ⟨by decide, by decide⟩ ⟨rfl, rfl⟩ (Nat.le_of_ble_eq_true rfl) ⟨by decide, by decide⟩ sm_desk (by decide) rfl rfl (fun v m9 hp => ?_) (fun E m9 hx => ?_)
  rotate_left
  · obtain ⟨rfl, ⟨rfl, h1⟩ | ⟨rfl, h1⟩⟩ := hx
    · refine PT.catch1n (x := ⟨0, 9, 12, 13⟩) (hp := 12) (i := 3) rfl (by decide) (by decide) (by decide +kernel) (by decide +kernel) rfl dL_tick_12 rfl (by decide) rfl ?_
      refine PW.iconst (v := 1) dL_tick_13 (by decide) ?_
      exact PW.iret dL_tick_14 rfl ⟨1, 0, M, w, Or.inr (Or.inl ⟨rfl, h1, rfl⟩), rfl, rfl, fun h => absurd h (by decide)⟩ (by decide) (by decide)
    · exact h1.elim
  obtain ⟨h1, rfl, rfl⟩ := hp
  refine PW.i2l dL_tick_7 ?_
  refine PW.last (n := 0) dL_tick_8 sm_out rfl (by decide) Nat.zero_lt_one pu_out ?_
  refine PW.goto (tgt := 15) dL_tick_9 (by decide) ?_
  refine PW.iconst (v := 0) dL_tick_15 (by decide) ?_
  exact PW.iret dL_tick_16 rfl ⟨0, (f_tick M x 39 5), (f_tick M x), _, Or.inl ⟨rfl, ⟨h1, rfl, rfl⟩⟩, rfl, rfl, fun _ => rfl⟩ (by decide) (by decide)
def H_group (M : dM) (x y z : Int32) : Int32 → Int32 → dM → Prop := HX (fun a M' => (∃ g, g < 4 ∧ x = nI g ∧ y = -1 ∧ okO z ∧ a = 0 ∧ M' = f_restart M g z) ∨ ∃ g, g < 4 ∧ x = nI g ∧ ¬ y = -1 ∧ okAdd M g y ∧ ¬ M (28 + g) 1 = 6 ∧ a = f_join M g y (28 + g) 1 ∧ M' = f_join M g y) (¬ okPl x ∨ ∃ g, g < 4 ∧ x = nI g ∧ ((y = -1 ∧ ¬ okO z) ∨ (¬ y = -1 ∧ ¬ okAdd M g y))) (∃ g, g < 4 ∧ x = nI g ∧ ¬ y = -1 ∧ okAdd M g y ∧ M (28 + g) 1 = 6) M
set_option maxRecDepth 100000 in
set_option maxHeartbeats 4000000 in
theorem h_group {M N : dM} {R : pM} (x y z : Int32) (hS : Sf M) (w : Int64) (l9 : Launch) : pMet l9 yL_group kL_group false [.ref 0, .int x, .int y, .int z, .ref 65] (SM M ++ (MM N ++ ((101, [.long w]) :: R))) (fun v m9 => ∃ (r a : Int32) (M' : dM) (w9 : Int64), H_group M x y z r a M' ∧ v = some (.int r) ∧ m9 = SM M' ++ (MM N ++ ((101, [.long w9]) :: R)) ∧ (r = 0 → w9 = a.toInt64)) (fun _ _ => False) := by
  refine pMet.ofH (hhl := [(0, 12, 15, 13), (0, 12, 19, 15)]) (by decide) rfl rfl rfl (by intro v hv; simp only [List.mem_cons, List.not_mem_nil, or_false] at hv; rcases hv with rfl | rfl | rfl | rfl | rfl <;> rfl) (Nat.le_of_ble_eq_true rfl) ?_
  show PW _ _ _ _ _ 0 [some (.ref 0), some (.int x), some (.int y), some (.int z), some (.ref 65), none] [] _ 0 0
  refine PW.aload dL_group_0 rfl ?_
  refine PW.iconst (v := 0) dL_group_2 (by decide) ?_
  refine PW.aload_n (i := 0) dL_group_3 rfl rfl ?_
  refine PW.iload_n (i := 1) dL_group_4 rfl rfl ?_
  refine PW.iload_n (i := 2) dL_group_5 rfl rfl ?_
  refine PW.iload_n (i := 3) dL_group_6 rfl rfl ?_
  refine PW.callV (k := kL_group) (n := 3) (c_group hS x y z) dL_group_7 gL_group_X4_group rfl hd_X4_group rfl ⟨by decide, by decide⟩ ⟨rfl, rfl⟩ (Nat.le_of_ble_eq_true rfl) ⟨by decide, by decide⟩ sm_desk (by decide) rfl rfl (fun v m9 hp => ?_) (fun E m9 hx => ?_)
  rotate_left
  · obtain ⟨rfl, ⟨rfl, h1⟩ | ⟨rfl, h1⟩⟩ := hx
    · refine PT.catch1 (x := ⟨0, 12, 15, 13⟩) (hp := 15) (i := 5) rfl (by decide) (by decide) (by decide +kernel) (by decide +kernel) rfl dL_group_15 (by decide) rfl ?_
      refine PW.iconst (v := 1) dL_group_17 (by decide) ?_
      exact PW.iret dL_group_18 rfl ⟨1, 0, M, w, Or.inr (Or.inl ⟨rfl, h1, rfl⟩), rfl, rfl, fun h => absurd h (by decide)⟩ (by decide) (by decide)
    · refine PT.catch2 (x := ⟨0, 12, 15, 13⟩) (y := ⟨0, 12, 19, 15⟩) (hp := 19) (i := 5) rfl (by decide) (by decide) (by decide +kernel) (by decide) (by decide) (by decide +kernel) (by decide +kernel) (by decide +kernel) rfl dL_group_19 (by decide) rfl ?_
      refine PW.iconst (v := 2) dL_group_21 (by decide) ?_
      exact PW.iret dL_group_22 rfl ⟨2, 0, M, w, Or.inr (Or.inr ⟨rfl, h1, rfl⟩), rfl, rfl, fun h => absurd h (by decide)⟩ (by decide) (by decide)
  rcases hp with ⟨g, hg, rfl, rfl, h1, rfl, rfl⟩ | ⟨g, hg, rfl, h0, h1, h2, rfl, rfl⟩
  · refine PW.i2l dL_group_10 ?_
    refine PW.last (n := 0) dL_group_11 sm_out rfl (by decide) Nat.zero_lt_one pu_out ?_
    refine PW.goto (tgt := 23) dL_group_12 (by decide) ?_
    refine PW.iconst (v := 0) dL_group_23 (by decide) ?_
    exact PW.iret dL_group_24 rfl ⟨0, 0, f_restart M g z, _, Or.inl ⟨rfl, Or.inl ⟨g, hg, rfl, rfl, h1, rfl, rfl⟩⟩, rfl, rfl, fun _ => rfl⟩ (by decide) (by decide)
  · refine PW.i2l dL_group_10 ?_
    refine PW.last (n := 0) dL_group_11 sm_out rfl (by decide) Nat.zero_lt_one pu_out ?_
    refine PW.goto (tgt := 23) dL_group_12 (by decide) ?_
    refine PW.iconst (v := 0) dL_group_23 (by decide) ?_
    exact PW.iret dL_group_24 rfl ⟨0, f_join M g y (28 + g) 1, f_join M g y, _, Or.inl ⟨rfl, Or.inr ⟨g, hg, rfl, h0, h1, h2, rfl, rfl⟩⟩, rfl, rfl, fun _ => rfl⟩ (by decide) (by decide)
def H_slot (M : dM) (x y z : Int32) : Int32 → Int32 → dM → Prop := HX (fun a M' => ∃ u t, u < 4 ∧ t < 8 ∧ x = nI u ∧ y = nI t ∧ M (24 + u) t < 0 ∧ M' = f_slot M u t z) (f_isSlot x y = false) (∃ u t, u < 4 ∧ t < 8 ∧ x = nI u ∧ y = nI t ∧ ¬ M (24 + u) t < 0) M
set_option maxRecDepth 100000 in
set_option maxHeartbeats 4000000 in
theorem h_slot {M : dM} {R : pM} (x y z : Int32)  (l9 : Launch) : pMet l9 yL_slot kL_slot false [.ref 0, .int x, .int y, .int z] (SM M ++ R) (fun v m9 => ∃ (r a : Int32) (M' : dM), H_slot M x y z r a M' ∧ v = some (.int r) ∧ m9 = SM M' ++ R) (fun _ _ => False) := by
  refine pMet.ofH (hhl := [(0, 7, 10, 13), (0, 7, 14, 15)]) (by decide) rfl rfl rfl (by intro v hv; simp only [List.mem_cons, List.not_mem_nil, or_false] at hv; rcases hv with rfl | rfl | rfl | rfl <;> rfl) (Nat.le_of_ble_eq_true rfl) ?_
  show PW _ _ _ _ _ 0 [some (.ref 0), some (.int x), some (.int y), some (.int z), none] [] _ 0 0
  refine PW.aload_n (i := 0) dL_slot_0 rfl rfl ?_
  refine PW.iload_n (i := 1) dL_slot_1 rfl rfl ?_
  refine PW.iload_n (i := 2) dL_slot_2 rfl rfl ?_
  refine PW.iload_n (i := 3) dL_slot_3 rfl rfl ?_
  refine PW.callV (k := kL_slot) (n := 3) (c_slot x y z) dL_slot_4 gL_slot_X4_slot rfl hd_X4_slot rfl ⟨by decide, by decide⟩ ⟨rfl, rfl⟩ (Nat.le_of_ble_eq_true rfl) ⟨by decide, by decide⟩ sm_desk (by decide) rfl rfl (fun v m9 hp => ?_) (fun E m9 hx => ?_)
  rotate_left
  · obtain ⟨rfl, ⟨rfl, h1⟩ | ⟨rfl, h1⟩⟩ := hx
    · refine PT.catch1 (x := ⟨0, 7, 10, 13⟩) (hp := 10) (i := 4) rfl (by decide) (by decide) (by decide +kernel) (by decide +kernel) rfl dL_slot_10 (by decide) rfl ?_
      refine PW.iconst (v := 1) dL_slot_12 (by decide) ?_
      exact PW.iret dL_slot_13 rfl ⟨1, 0, M, Or.inr (Or.inl ⟨rfl, h1, rfl⟩), rfl, rfl⟩ (by decide) (by decide)
    · refine PT.catch2 (x := ⟨0, 7, 10, 13⟩) (y := ⟨0, 7, 14, 15⟩) (hp := 14) (i := 4) rfl (by decide) (by decide) (by decide +kernel) (by decide) (by decide) (by decide +kernel) (by decide +kernel) (by decide +kernel) rfl dL_slot_14 (by decide) rfl ?_
      refine PW.iconst (v := 2) dL_slot_16 (by decide) ?_
      exact PW.iret dL_slot_17 rfl ⟨2, 0, M, Or.inr (Or.inr ⟨rfl, h1, rfl⟩), rfl, rfl⟩ (by decide) (by decide)
  obtain ⟨u, t, hu, ht, rfl, rfl, h1, rfl, rfl⟩ := hp
  refine PW.goto (tgt := 18) dL_slot_7 (by decide) ?_
  refine PW.iconst (v := 0) dL_slot_18 (by decide) ?_
  exact PW.iret dL_slot_19 rfl ⟨0, 0, (f_slot M u t z), Or.inl ⟨rfl, ⟨u, t, hu, ht, rfl, rfl, h1, rfl⟩⟩, rfl, rfl⟩ (by decide) (by decide)
def H_carries (M : dM) (x y : Int32) : Int32 → Int32 → dM → Prop := HX (fun a M' => ∃ u t, u < 4 ∧ t < 8 ∧ x = nI u ∧ y = nI t ∧ a = M (24 + u) t ∧ M = M') (f_isSlot x y = false) (False) M
set_option maxRecDepth 100000 in
set_option maxHeartbeats 4000000 in
theorem h_carries {M N : dM} {R : pM} (x y : Int32)  (w : Int64) (l9 : Launch) : pMet l9 yL_carries kL_carries false [.ref 0, .int x, .int y, .ref 65] (SM M ++ (MM N ++ ((101, [.long w]) :: R))) (fun v m9 => ∃ (r a : Int32) (M' : dM) (w9 : Int64), H_carries M x y r a M' ∧ v = some (.int r) ∧ m9 = SM M' ++ (MM N ++ ((101, [.long w9]) :: R)) ∧ (r = 0 → w9 = a.toInt64)) (fun _ _ => False) := by
  refine pMet.ofH (hhl := [(0, 10, 13, 13)]) (by decide) rfl rfl rfl (by intro v hv; simp only [List.mem_cons, List.not_mem_nil, or_false] at hv; rcases hv with rfl | rfl | rfl | rfl <;> rfl) (Nat.le_of_ble_eq_true rfl) ?_
  show PW _ _ _ _ _ 0 [some (.ref 0), some (.int x), some (.int y), some (.ref 65), none] [] _ 0 0
  refine PW.aload_n (i := 3) dL_carries_0 rfl rfl ?_
  refine PW.iconst (v := 0) dL_carries_1 (by decide) ?_
  refine PW.aload_n (i := 0) dL_carries_2 rfl rfl ?_
  refine PW.iload_n (i := 1) dL_carries_3 rfl rfl ?_
  refine PW.iload_n (i := 2) dL_carries_4 rfl rfl ?_
  refine PW.callV (k := kL_carries) (n := 2) (c_carries x y) dL_carries_5 gL_carries_X4_carries rfl hd_X4_carries rfl ⟨by decide, by decide⟩ ⟨rfl, rfl⟩ (Nat.le_of_ble_eq_true rfl) ⟨by decide, by decide⟩ sm_desk (by decide) rfl rfl (fun v m9 hp => ?_) (fun E m9 hx => ?_)
  rotate_left
  · obtain ⟨rfl, ⟨rfl, h1⟩ | ⟨rfl, h1⟩⟩ := hx
    · refine PT.catch1 (x := ⟨0, 10, 13, 13⟩) (hp := 13) (i := 4) rfl (by decide) (by decide) (by decide +kernel) (by decide +kernel) rfl dL_carries_13 (by decide) rfl ?_
      refine PW.iconst (v := 1) dL_carries_15 (by decide) ?_
      exact PW.iret dL_carries_16 rfl ⟨1, 0, M, w, Or.inr (Or.inl ⟨rfl, h1, rfl⟩), rfl, rfl, fun h => absurd h (by decide)⟩ (by decide) (by decide)
    · exact h1.elim
  obtain ⟨u, t, hu, ht, rfl, rfl, rfl, rfl⟩ := hp
  refine PW.i2l dL_carries_8 ?_
  refine PW.last (n := 0) dL_carries_9 sm_out rfl (by decide) Nat.zero_lt_one pu_out ?_
  refine PW.goto (tgt := 17) dL_carries_10 (by decide) ?_
  refine PW.iconst (v := 0) dL_carries_17 (by decide) ?_
  exact PW.iret dL_carries_18 rfl ⟨0, (M (24 + u) t), (M), _, Or.inl ⟨rfl, ⟨u, t, hu, ht, rfl, rfl, rfl, rfl⟩⟩, rfl, rfl, fun _ => rfl⟩ (by decide) (by decide)
def H_line (M : dM) (x y : Int32) : Int32 → Int32 → dM → Prop := HX (fun a M' => ∃ l q, l < 24 ∧ q < 6 ∧ x = nI l ∧ y = nI q ∧ a = f_line M l q ∧ M = M') (f_isLine x = false ∨ ¬ okW y) (False) M
set_option maxRecDepth 100000 in
set_option maxHeartbeats 4000000 in
theorem h_line {M N : dM} {R : pM} (x y : Int32)  (w : Int64) (l9 : Launch) : pMet l9 yL_line kL_line false [.ref 0, .int x, .int y, .ref 65] (SM M ++ (MM N ++ ((101, [.long w]) :: R))) (fun v m9 => ∃ (r a : Int32) (M' : dM) (w9 : Int64), H_line M x y r a M' ∧ v = some (.int r) ∧ m9 = SM M' ++ (MM N ++ ((101, [.long w9]) :: R)) ∧ (r = 0 → w9 = a.toInt64)) (fun _ _ => False) := by
  refine pMet.ofH (hhl := [(0, 10, 13, 13)]) (by decide) rfl rfl rfl (by intro v hv; simp only [List.mem_cons, List.not_mem_nil, or_false] at hv; rcases hv with rfl | rfl | rfl | rfl <;> rfl) (Nat.le_of_ble_eq_true rfl) ?_
  show PW _ _ _ _ _ 0 [some (.ref 0), some (.int x), some (.int y), some (.ref 65), none] [] _ 0 0
  refine PW.aload_n (i := 3) dL_line_0 rfl rfl ?_
  refine PW.iconst (v := 0) dL_line_1 (by decide) ?_
  refine PW.aload_n (i := 0) dL_line_2 rfl rfl ?_
  refine PW.iload_n (i := 1) dL_line_3 rfl rfl ?_
  refine PW.iload_n (i := 2) dL_line_4 rfl rfl ?_
  refine PW.callV (k := kL_line) (n := 2) (c_line x y) dL_line_5 gL_line_X4_line rfl hd_X4_line rfl ⟨by decide, by decide⟩ ⟨rfl, rfl⟩ (Nat.le_of_ble_eq_true rfl) ⟨by decide, by decide⟩ sm_desk (by decide) rfl rfl (fun v m9 hp => ?_) (fun E m9 hx => ?_)
  rotate_left
  · obtain ⟨rfl, ⟨rfl, h1⟩ | ⟨rfl, h1⟩⟩ := hx
    · refine PT.catch1 (x := ⟨0, 10, 13, 13⟩) (hp := 13) (i := 4) rfl (by decide) (by decide) (by decide +kernel) (by decide +kernel) rfl dL_line_13 (by decide) rfl ?_
      refine PW.iconst (v := 1) dL_line_15 (by decide) ?_
      exact PW.iret dL_line_16 rfl ⟨1, 0, M, w, Or.inr (Or.inl ⟨rfl, h1, rfl⟩), rfl, rfl, fun h => absurd h (by decide)⟩ (by decide) (by decide)
    · exact h1.elim
  obtain ⟨l, q, hl, hq, rfl, rfl, rfl, rfl⟩ := hp
  refine PW.i2l dL_line_8 ?_
  refine PW.last (n := 0) dL_line_9 sm_out rfl (by decide) Nat.zero_lt_one pu_out ?_
  refine PW.goto (tgt := 17) dL_line_10 (by decide) ?_
  refine PW.iconst (v := 0) dL_line_17 (by decide) ?_
  exact PW.iret dL_line_18 rfl ⟨0, (f_line M l q), (M), _, Or.inl ⟨rfl, ⟨l, q, hl, hq, rfl, rfl, rfl, rfl⟩⟩, rfl, rfl, fun _ => rfl⟩ (by decide) (by decide)
def H_count (M : dM) (x : Int32) : Int32 → Int32 → dM → Prop := HX (fun a M' => okQ x ∧ a = f_count M x ∧ M = M') (¬ okQ x) (False) M
set_option maxRecDepth 100000 in
set_option maxHeartbeats 4000000 in
theorem h_count {M N : dM} {R : pM} (x : Int32)  (w : Int64) (l9 : Launch) : pMet l9 yL_count kL_count false [.ref 0, .int x, .ref 65] (SM M ++ (MM N ++ ((101, [.long w]) :: R))) (fun v m9 => ∃ (r a : Int32) (M' : dM) (w9 : Int64), H_count M x r a M' ∧ v = some (.int r) ∧ m9 = SM M' ++ (MM N ++ ((101, [.long w9]) :: R)) ∧ (r = 0 → w9 = a.toInt64)) (fun _ _ => False) := by
  refine pMet.ofH (hhl := [(0, 9, 12, 13)]) (by decide) rfl rfl rfl (by intro v hv; simp only [List.mem_cons, List.not_mem_nil, or_false] at hv; rcases hv with rfl | rfl | rfl <;> rfl) (Nat.le_of_ble_eq_true rfl) ?_
  show PW _ _ _ _ _ 0 [some (.ref 0), some (.int x), some (.ref 65), none] [] _ 0 0
  refine PW.aload_n (i := 2) dL_count_0 rfl rfl ?_
  refine PW.iconst (v := 0) dL_count_1 (by decide) ?_
  refine PW.aload_n (i := 0) dL_count_2 rfl rfl ?_
  refine PW.iload_n (i := 1) dL_count_3 rfl rfl ?_
  refine PW.callV (k := kL_count) (n := 1) (c_count x) dL_count_4 gL_count_X4_count rfl hd_X4_count rfl ⟨by decide, by decide⟩ ⟨rfl, rfl⟩ (Nat.le_of_ble_eq_true rfl) ⟨by decide, by decide⟩ sm_desk (by decide) rfl rfl (fun v m9 hp => ?_) (fun E m9 hx => ?_)
  rotate_left
  · obtain ⟨rfl, ⟨rfl, h1⟩ | ⟨rfl, h1⟩⟩ := hx
    · refine PT.catch1n (x := ⟨0, 9, 12, 13⟩) (hp := 12) (i := 3) rfl (by decide) (by decide) (by decide +kernel) (by decide +kernel) rfl dL_count_12 rfl (by decide) rfl ?_
      refine PW.iconst (v := 1) dL_count_13 (by decide) ?_
      exact PW.iret dL_count_14 rfl ⟨1, 0, M, w, Or.inr (Or.inl ⟨rfl, h1, rfl⟩), rfl, rfl, fun h => absurd h (by decide)⟩ (by decide) (by decide)
    · exact h1.elim
  obtain ⟨h1, rfl, rfl⟩ := hp
  refine PW.i2l dL_count_7 ?_
  refine PW.last (n := 0) dL_count_8 sm_out rfl (by decide) Nat.zero_lt_one pu_out ?_
  refine PW.goto (tgt := 15) dL_count_9 (by decide) ?_
  refine PW.iconst (v := 0) dL_count_15 (by decide) ?_
  exact PW.iret dL_count_16 rfl ⟨0, (f_count M x), (M), _, Or.inl ⟨rfl, ⟨h1, rfl, rfl⟩⟩, rfl, rfl, fun _ => rfl⟩ (by decide) (by decide)
def H_book (M : dM) (x y : Int32) : Int32 → Int32 → dM → Prop := HX (fun a M' => ∃ q p, q < wr M ∧ p < 4 ∧ x = nI q ∧ y = nI p ∧ f_keeps M x = true ∧ a = M 38 (q % 60 * 4 + p) ∧ M = M') (¬ okPl y) (okPl y ∧ f_keeps M x = false) M
set_option maxRecDepth 100000 in
set_option maxHeartbeats 4000000 in
theorem h_book {M N : dM} {R : pM} (x y : Int32) (hw : M 37 1 = nI (wr M) ∧ wr M < 100000) (w : Int64) (l9 : Launch) : pMet l9 yL_book kL_book false [.ref 0, .int x, .int y, .ref 65] (SM M ++ (MM N ++ ((101, [.long w]) :: R))) (fun v m9 => ∃ (r a : Int32) (M' : dM) (w9 : Int64), H_book M x y r a M' ∧ v = some (.int r) ∧ m9 = SM M' ++ (MM N ++ ((101, [.long w9]) :: R)) ∧ (r = 0 → w9 = a.toInt64)) (fun _ _ => False) := by
  refine pMet.ofH (hhl := [(0, 10, 13, 13), (0, 10, 17, 57)]) (by decide) rfl rfl rfl (by intro v hv; simp only [List.mem_cons, List.not_mem_nil, or_false] at hv; rcases hv with rfl | rfl | rfl | rfl <;> rfl) (Nat.le_of_ble_eq_true rfl) ?_
  show PW _ _ _ _ _ 0 [some (.ref 0), some (.int x), some (.int y), some (.ref 65), none] [] _ 0 0
  refine PW.aload_n (i := 3) dL_book_0 rfl rfl ?_
  refine PW.iconst (v := 0) dL_book_1 (by decide) ?_
  refine PW.aload_n (i := 0) dL_book_2 rfl rfl ?_
  refine PW.iload_n (i := 1) dL_book_3 rfl rfl ?_
  refine PW.iload_n (i := 2) dL_book_4 rfl rfl ?_
  refine PW.callV (k := kL_book) (n := 2) (c_book hw x y) dL_book_5 gL_book_X4_book rfl hd_X4_book rfl ⟨by decide, by decide⟩ ⟨rfl, rfl⟩ (Nat.le_of_ble_eq_true rfl) ⟨by decide, by decide⟩ sm_desk (by decide) rfl rfl (fun v m9 hp => ?_) (fun E m9 hx => ?_)
  rotate_left
  · obtain ⟨rfl, ⟨rfl, h1⟩ | ⟨rfl, h1⟩⟩ := hx
    · refine PT.catch1 (x := ⟨0, 10, 13, 13⟩) (hp := 13) (i := 4) rfl (by decide) (by decide) (by decide +kernel) (by decide +kernel) rfl dL_book_13 (by decide) rfl ?_
      refine PW.iconst (v := 1) dL_book_15 (by decide) ?_
      exact PW.iret dL_book_16 rfl ⟨1, 0, M, w, Or.inr (Or.inl ⟨rfl, h1, rfl⟩), rfl, rfl, fun h => absurd h (by decide)⟩ (by decide) (by decide)
    · refine PT.catch2 (x := ⟨0, 10, 13, 13⟩) (y := ⟨0, 10, 17, 57⟩) (hp := 17) (i := 4) rfl (by decide) (by decide) (by decide +kernel) (by decide) (by decide) (by decide +kernel) (by decide +kernel) (by decide +kernel) rfl dL_book_17 (by decide) rfl ?_
      refine PW.iconst (v := 2) dL_book_19 (by decide) ?_
      exact PW.iret dL_book_20 rfl ⟨2, 0, M, w, Or.inr (Or.inr ⟨rfl, h1, rfl⟩), rfl, rfl, fun h => absurd h (by decide)⟩ (by decide) (by decide)
  obtain ⟨q, p, hq, hp, rfl, rfl, h1, rfl, rfl⟩ := hp
  refine PW.i2l dL_book_8 ?_
  refine PW.last (n := 0) dL_book_9 sm_out rfl (by decide) Nat.zero_lt_one pu_out ?_
  refine PW.goto (tgt := 21) dL_book_10 (by decide) ?_
  refine PW.iconst (v := 0) dL_book_21 (by decide) ?_
  exact PW.iret dL_book_22 rfl ⟨0, (M 38 (q % 60 * 4 + p)), (M), _, Or.inl ⟨rfl, ⟨q, p, hq, hp, rfl, rfl, h1, rfl, rfl⟩⟩, rfl, rfl, fun _ => rfl⟩ (by decide) (by decide)
