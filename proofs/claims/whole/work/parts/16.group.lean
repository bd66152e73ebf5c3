abbrev kX4_ringAll : pK := (RX4, cX4_ringAll, 6, wsX4_ringAll, { frames := 3, cells := 0, slots := 0, locals := 90 }, (some .boolean), [], 0, 0, pNo)
theorem FX4_ringAll_146 : pF kX4_ringAll.Ts kX4_ringAll.own 146 1 1 := ⟨_, _, _, by decide, rfl, by decide, by decide +kernel, by decide +kernel⟩
theorem FX4_ringAll_11 : pF kX4_ringAll.Ts kX4_ringAll.own 11 4 0 := ⟨_, _, _, by decide, rfl, by decide, by decide +kernel, by decide +kernel⟩
theorem FX4_ringAll_250 : pF kX4_ringAll.Ts kX4_ringAll.own 250 1 0 := ⟨_, _, _, by decide, rfl, by decide, by decide +kernel, by decide +kernel⟩
abbrev kX4_ringOne : pK := (RX4, cX4_ringOne, 4, wsX4_ringOne, { frames := 3, cells := 0, slots := 0, locals := 90 }, (some .boolean), [], 0, 0, pNo)
theorem FX4_ringOne_237 : pF kX4_ringOne.Ts kX4_ringOne.own 237 1 2 := ⟨_, _, _, by decide, rfl, by decide, by decide +kernel, by decide +kernel⟩
theorem FX4_ringOne_263 : pF kX4_ringOne.Ts kX4_ringOne.own 263 1 3 := ⟨_, _, _, by decide, rfl, by decide, by decide +kernel, by decide +kernel⟩
theorem FX4_ringOne_11 : pF kX4_ringOne.Ts kX4_ringOne.own 11 4 0 := ⟨_, _, _, by decide, rfl, by decide, by decide +kernel, by decide +kernel⟩
theorem FX4_ringOne_250 : pF kX4_ringOne.Ts kX4_ringOne.own 250 1 0 := ⟨_, _, _, by decide, rfl, by decide, by decide +kernel, by decide +kernel⟩
abbrev kX4_callGroup : pK := (RX4, cX4_callGroup, 4, wsX4_callGroup, { frames := 4, cells := 0, slots := 0, locals := 120 }, none, [], 0, 0, pNo)
theorem FX4_callGroup_237 : pF kX4_callGroup.Ts kX4_callGroup.own 237 1 2 := ⟨_, _, _, by decide, rfl, by decide, by decide +kernel, by decide +kernel⟩
theorem FX4_callGroup_75 : pF kX4_callGroup.Ts kX4_callGroup.own 75 4 5 := ⟨_, _, _, by decide, rfl, by decide, by decide +kernel, by decide +kernel⟩
def hwL (M : dM) (c g : Nat) : Nat → Nat → Bool
  | 0, _ => false
  | n + 1, i => if f_will M c (mb M g i) = true then true else hwL M c g n (i + 1)
set_option maxRecDepth 100000 in
set_option maxHeartbeats 4000000 in
theorem hw_loop {M : dM} {R : pM} {c g n0 : Nat} (hS : Sf M) (hc : c < 24) (hg : g < 4) : ∀ (n s : Nat), s + n = grN M g → hwL M c g n s = hwL M c g (grN M g) 0 → PW kX4_hasWilling false n0 (fun v m9 => v = some (.int (b2i (hwL M c g (grN M g) 0))) ∧ m9 = SM M ++ R) (fun _ _ => False) 2 [some (.ref 0), some (.ref (2 + c)), some (.ref (33 + 2 * g)), some (.int (nI s))] [] (SM M ++ R) 0 0 := by
  obtain ⟨eN, hN, hmem, eS, hS6⟩ := id (hS.2.2 g hg)
  intro n
  induction n with
  | zero =>
    intro s hs hr
    refine PW.iload_n (i := 3) dX4_hasWilling_2 rfl rfl ?_
    refine PW.aload_n (i := 2) dX4_hasWilling_3 rfl rfl ?_
    refine PW.getf FX4_hasWilling_146 dX4_hasWilling_4 (sm_grp hg) rfl ?_
    rw [eN]
    refine PW.icmp_ge (tgt := 36) dX4_hasWilling_7 (by decide) (fun _ => ?_) (fun h7 => absurd (nI_le (a := grN M g) (b := s) (by omega) (by omega)) h7)
    refine PW.iconst (v := 0) dX4_hasWilling_36 (by decide) ?_
    exact PW.zret (v := 0) dX4_hasWilling_37 rfl rfl ⟨by rw [← hr]; rfl, rfl⟩ (by decide) (by decide)
  | succ n ih =>
    intro s hs hr
    refine PW.iload_n (i := 3) dX4_hasWilling_2 rfl rfl ?_
    refine PW.aload_n (i := 2) dX4_hasWilling_3 rfl rfl ?_
    refine PW.getf FX4_hasWilling_146 dX4_hasWilling_4 (sm_grp hg) rfl ?_
    rw [eN]
    refine PW.icmp_ge (tgt := 36) dX4_hasWilling_7 (by decide) (fun h7 => absurd h7 (nI_ge (a := s) (b := grN M g) (by omega) (by omega))) (fun _ => ?_)
    have hs9 : s < grN M g := by omega
    refine PW.aload_n (i := 1) dX4_hasWilling_10 rfl rfl ?_
    refine PW.aload_n (i := 0) dX4_hasWilling_11 rfl rfl ?_
    refine PW.getf FX4_hasWilling_11 dX4_hasWilling_12 sm_desk rfl ?_
    refine PW.aload_n (i := 2) dX4_hasWilling_15 rfl rfl ?_
    refine PW.getf FX4_hasWilling_250 dX4_hasWilling_16 (sm_grp hg) rfl ?_
    refine PW.iload_n (i := 3) dX4_hasWilling_19 rfl rfl ?_
    refine PW.iald dX4_hasWilling_20 (sm_grw hg) rfl (by omega) (iaF_get (by omega)) ?_
    refine PW.aald dX4_hasWilling_21 sm_lines (by decide) (fun _ => rfl) rfl (hmem s hs9).1 (Nat.lt_trans (hmem s hs9).2 (by decide)) (lnA_get (hmem s hs9).2) ?_
    refine PW.callS (k := kX4_hasWilling) (n := 2) (c_isWilling hc (hmem s hs9).2) dX4_hasWilling_22 gX4_hasWilling_X4_isWilling rfl hs_X4_isWilling rfl ⟨by decide, by decide⟩ ⟨rfl, rfl⟩ (Nat.le_of_ble_eq_true rfl) ⟨by decide, by decide⟩ rfl (fun v m9 hp => ?_) (fun _ _ hx => hx.elim)
    obtain ⟨rfl, rfl⟩ := hp
    refine PW.if_eq (tgt := 30) dX4_hasWilling_25 (by decide) (fun h25 => ?_) (fun h25 => ?_)
    · refine PW.iinc (v := nI (s + 1)) dX4_hasWilling_30 rfl (nI_1 s) (by decide) rfl ?_
      refine PW.goto (tgt := 2) dX4_hasWilling_33 (by decide) ?_
      exact ih (s + 1) (by omega) (by rw [← hr, hwL, if_neg (by rw [b2i_z h25]; decide)])
    · refine PW.iconst (v := 1) dX4_hasWilling_28 (by decide) ?_
      exact PW.zret (v := 1) dX4_hasWilling_29 rfl rfl ⟨by rw [← hr, hwL, if_pos (b2i_t h25)]; rfl, rfl⟩ (by decide) (by decide)
set_option maxRecDepth 100000 in
set_option maxHeartbeats 4000000 in
theorem c_hasWilling {M : dM} {R : pM} {c g : Nat} (hS : Sf M) (hc : c < 24) (hg : g < 4) (l9 : Launch) : pMet l9 yX4_hasWilling kX4_hasWilling false [.ref 0, .ref (2 + c), .ref (33 + 2 * g)] (SM M ++ R) (fun v m9 => v = some (.int (b2i (hwL M c g (grN M g) 0))) ∧ m9 = SM (M) ++ R) (fun _ _ => False) := by
  refine pMet.of (by decide) rfl rfl rfl (by intro v hv; simp only [List.mem_cons, List.not_mem_nil, or_false] at hv; rcases hv with rfl | rfl | rfl <;> rfl) (Nat.le_of_ble_eq_true rfl) ?_
  show PW _ _ _ _ _ 0 [some (.ref 0), some (.ref (2 + c)), some (.ref (33 + 2 * g)), none] [] (SM M ++ R) 0 0
  refine PW.iconst (v := 0) dX4_hasWilling_0 (by decide) ?_
  refine PW.istore_n (i := 3) dX4_hasWilling_1 rfl (by decide) rfl ?_
  exact hw_loop hS hc hg _ 0 (by omega) rfl
def ftL (M : dM) (c g N S : Nat) : Nat → Nat → Int32
  | 0, _ => -1
  | n + 1, i => if f_can M c (mb M g ((S + i) % N)) = true then nI ((S + i) % N) else ftL M c g N S n (i + 1)
def f_first (M : dM) (c g : Nat) : Int32 := ftL M c g (grN M g) (if M (28 + g) 2 = 1 then grS M g else 0) (grN M g) 0
theorem ftL_cases (M : dM) (c g N S : Nat) : ∀ n i, i + n = N → ftL M c g N S n i = -1 ∨ ∃ q, q < N ∧ ftL M c g N S n i = nI q ∧ f_can M c (mb M g q) = true
  | 0, _, _ => Or.inl rfl
  | n + 1, i, h => by
    by_cases e : f_can M c (mb M g ((S + i) % N)) = true
    · exact Or.inr ⟨(S + i) % N, Nat.mod_lt _ (by omega), by rw [ftL, if_pos e], e⟩
    · rcases ftL_cases M c g N S n (i + 1) (by omega) with e1 | ⟨q, h1, h2, h3⟩
      · left; rw [ftL, if_neg e]; exact e1
      · right; exact ⟨q, h1, by rw [ftL, if_neg e]; exact h2, h3⟩
set_option maxRecDepth 100000 in
set_option maxHeartbeats 4000000 in
theorem ft_loop {M : dM} {R : pM} {c g n0 S : Nat} {fin : Int32} (hS : Sf M) (hc : c < 24) (hg : g < 4) (hS7 : S ≤ 6) : ∀ (n s : Nat) (w5 : Option Value), s + n = grN M g → ftL M c g (grN M g) S n s = fin → PW kX4_firstToTake false n0 (fun v m9 => v = some (.int fin) ∧ m9 = SM M ++ R) (fun _ _ => False) 22 [some (.ref 0), some (.ref (2 + c)), some (.ref (33 + 2 * g)), some (.int (nI S)), some (.int (nI s)), w5] [] (SM M ++ R) 0 0 := by
  obtain ⟨eN, hN, hmem, eS, hS6⟩ := id (hS.2.2 g hg)
  intro n
  induction n with
  | zero =>
    intro s w5 hs hr
    refine PW.iload dX4_firstToTake_22 rfl ?_
    refine PW.aload_n (i := 2) dX4_firstToTake_24 rfl rfl ?_
    refine PW.getf FX4_firstToTake_146 dX4_firstToTake_25 (sm_grp hg) rfl ?_
    rw [eN]
    refine PW.icmp_ge (tgt := 71) dX4_firstToTake_28 (by decide) (fun _ => ?_) (fun h28 => absurd (nI_le (a := grN M g) (b := s) (by omega) (by omega)) h28)
    refine PW.iconst (v := (-1)) dX4_firstToTake_71 (by decide) ?_
    exact PW.iret dX4_firstToTake_72 rfl ⟨by rw [← hr]; rfl, rfl⟩ (by decide) (by decide)
  | succ n ih =>
    intro s w5 hs hr
    refine PW.iload dX4_firstToTake_22 rfl ?_
    refine PW.aload_n (i := 2) dX4_firstToTake_24 rfl rfl ?_
    refine PW.getf FX4_firstToTake_146 dX4_firstToTake_25 (sm_grp hg) rfl ?_
    rw [eN]
    refine PW.icmp_ge (tgt := 71) dX4_firstToTake_28 (by decide) (fun h28 => absurd h28 (nI_ge (a := s) (b := grN M g) (by omega) (by omega))) (fun _ => ?_)
    have hN0 : 0 < grN M g := by omega
    have hq9 : (S + s) % grN M g < grN M g := Nat.mod_lt _ hN0
    refine PW.iload_n (i := 3) dX4_firstToTake_31 rfl rfl ?_
    refine PW.iload dX4_firstToTake_32 rfl ?_
    refine PW.iadd dX4_firstToTake_34 ?_
    rw [nI_k]
    refine PW.aload_n (i := 2) dX4_firstToTake_35 rfl rfl ?_
    refine PW.getf FX4_firstToTake_146 dX4_firstToTake_36 (sm_grp hg) rfl ?_
    rw [eN]
    refine PW.irem dX4_firstToTake_39 (nI_ne0 hN0 (by omega)) ?_
    rw [pk_rem (by omega) hN0 (by omega)]
    refine PW.istore dX4_firstToTake_40 (by decide) rfl ?_
    refine PW.aload_n (i := 0) dX4_firstToTake_42 rfl rfl ?_
    refine PW.aload_n (i := 1) dX4_firstToTake_43 rfl rfl ?_
    refine PW.aload_n (i := 0) dX4_firstToTake_44 rfl rfl ?_
    refine PW.getf FX4_firstToTake_11 dX4_firstToTake_45 sm_desk rfl ?_
    refine PW.aload_n (i := 2) dX4_firstToTake_48 rfl rfl ?_
    refine PW.getf FX4_firstToTake_250 dX4_firstToTake_49 (sm_grp hg) rfl ?_
    refine PW.iload dX4_firstToTake_52 rfl ?_
    refine PW.iald dX4_firstToTake_54 (sm_grw hg) rfl (by omega) (iaF_get (by omega)) ?_
    refine PW.aald dX4_firstToTake_55 sm_lines (by decide) (fun _ => rfl) rfl (hmem _ hq9).1 (Nat.lt_trans (hmem _ hq9).2 (by decide)) (lnA_get (hmem _ hq9).2) ?_
    refine PW.callV (k := kX4_firstToTake) (n := 2) (c_canTake hc (hmem _ hq9).2) dX4_firstToTake_56 gX4_firstToTake_X4_canTake rfl hd_X4_canTake rfl ⟨by decide, by decide⟩ ⟨rfl, rfl⟩ (Nat.le_of_ble_eq_true rfl) ⟨by decide, by decide⟩ sm_desk (by decide) rfl rfl (fun v m9 hp => ?_) (fun _ _ hx => hx.elim)
    obtain ⟨rfl, rfl⟩ := hp
    refine PW.if_eq (tgt := 65) dX4_firstToTake_59 (by decide) (fun h59 => ?_) (fun h59 => ?_)
    · refine PW.iinc (v := nI (s + 1)) dX4_firstToTake_65 rfl (nI_1 s) (by decide) rfl ?_
      refine PW.goto (tgt := 22) dX4_firstToTake_68 (by decide) ?_
      exact ih (s + 1) _ (by omega) (by rw [← hr, ftL, if_neg (by rw [b2i_z h59]; decide)])
    · refine PW.iload dX4_firstToTake_62 rfl ?_
      exact PW.iret dX4_firstToTake_64 rfl ⟨by rw [← hr, ftL, if_pos (b2i_t h59)], rfl⟩ (by decide) (by decide)
set_option maxRecDepth 100000 in
set_option maxHeartbeats 4000000 in
theorem c_firstToTake {M : dM} {R : pM} {c g : Nat} (hS : Sf M) (hc : c < 24) (hg : g < 4) (l9 : Launch) : pMet l9 yX4_firstToTake kX4_firstToTake false [.ref 0, .ref (2 + c), .ref (33 + 2 * g)] (SM M ++ R) (fun v m9 => v = some (.int (f_first M c g)) ∧ m9 = SM (M) ++ R) (fun _ _ => False) := by
  refine pMet.of (by decide) rfl rfl rfl (by intro v hv; simp only [List.mem_cons, List.not_mem_nil, or_false] at hv; rcases hv with rfl | rfl | rfl <;> rfl) (Nat.le_of_ble_eq_true rfl) ?_
  show PW _ _ _ _ _ 0 [some (.ref 0), some (.ref (2 + c)), some (.ref (33 + 2 * g)), none, none, none] [] (SM M ++ R) 0 0
  obtain ⟨eN, hN, hmem, eS, hS6⟩ := id (hS.2.2 g hg)
  refine PW.aload_n (i := 2) dX4_firstToTake_0 rfl rfl ?_
  refine PW.getf FX4_firstToTake_237 dX4_firstToTake_1 (sm_grp hg) rfl ?_
  refine PW.iconst (v := 1) dX4_firstToTake_4 (by decide) ?_
  refine PW.icmp_ne (tgt := 17) dX4_firstToTake_5 (by decide) (fun h5 => ?_) (fun h5 => ?_)
  · refine PW.iconst (v := 0) dX4_firstToTake_17 (by decide) ?_
    refine PW.istore_n (i := 3) dX4_firstToTake_18 rfl (by decide) rfl ?_
    refine PW.iconst (v := 0) dX4_firstToTake_19 (by decide) ?_
    refine PW.istore dX4_firstToTake_20 (by decide) rfl ?_
    exact ft_loop hS hc hg (S := 0) (by decide) (grN M g) 0 _ (by omega) (by rw [f_first, if_neg h5])
  · refine PW.aload_n (i := 2) dX4_firstToTake_8 rfl rfl ?_
    refine PW.getf FX4_firstToTake_263 dX4_firstToTake_9 (sm_grp hg) rfl ?_
    refine PW.iconst (v := 1) dX4_firstToTake_12 (by decide) ?_
    refine PW.iadd dX4_firstToTake_13 ?_
    rw [eS]
    refine PW.goto (tgt := 18) dX4_firstToTake_14 (by decide) ?_
    refine PW.istore_n (i := 3) dX4_firstToTake_18 rfl (by decide) rfl ?_
    refine PW.iconst (v := 0) dX4_firstToTake_19 (by decide) ?_
    refine PW.istore dX4_firstToTake_20 (by decide) rfl ?_
    exact ft_loop hS hc hg (S := grS M g) hS6 (grN M g) 0 _ (by omega) (by rw [f_first, if_pos h5])
def liL (M : dM) (c g : Nat) : Nat → Nat → Int32 → Int32 → Int32
  | 0, _, b, _ => b
  | n + 1, i, b, s => if M (mb M g i) 2 < s ∧ f_can M c (mb M g i) = true then liL M c g n (i + 1) (nI i) (M (mb M g i) 2) else liL M c g n (i + 1) b s
def f_long (M : dM) (c g : Nat) : Int32 := liL M c g (grN M g) 0 (-1) 2147483647
theorem liL_cases (M : dM) (c g N : Nat) : ∀ n i b s, i + n = N → (b = -1 ∨ ∃ q, q < N ∧ b = nI q ∧ f_can M c (mb M g q) = true) → (liL M c g n i b s = -1 ∨ ∃ q, q < N ∧ liL M c g n i b s = nI q ∧ f_can M c (mb M g q) = true)
  | 0, _, _, _, _, h => h
  | n + 1, i, b, s, h, hb => by
    by_cases e : M (mb M g i) 2 < s ∧ f_can M c (mb M g i) = true
    · rw [liL, if_pos e]; exact liL_cases M c g N n (i + 1) _ _ (by omega) (Or.inr ⟨i, by omega, rfl, e.2⟩)
    · rw [liL, if_neg e]; exact liL_cases M c g N n (i + 1) _ _ (by omega) hb
set_option maxRecDepth 100000 in
set_option maxHeartbeats 4000000 in
theorem li_loop {M : dM} {R : pM} {c g n0 : Nat} (hS : Sf M) (hc : c < 24) (hg : g < 4) : ∀ (n s : Nat) (b t : Int32) (w6 : Option Value), s + n = grN M g → liL M c g n s b t = f_long M c g → PW kX4_longestIdle false n0 (fun v m9 => v = some (.int (f_long M c g)) ∧ m9 = SM M ++ R) (fun _ _ => False) 10 [some (.ref 0), some (.ref (2 + c)), some (.ref (33 + 2 * g)), some (.int b), some (.int t), some (.int (nI s)), w6] [] (SM M ++ R) 0 0 := by
  obtain ⟨eN, hN, hmem, eS, hS6⟩ := id (hS.2.2 g hg)
  intro n
  induction n with
  | zero =>
    intro s b t w6 hs hr
    refine PW.iload dX4_longestIdle_10 rfl ?_
    refine PW.aload_n (i := 2) dX4_longestIdle_12 rfl rfl ?_
    refine PW.getf FX4_longestIdle_146 dX4_longestIdle_13 (sm_grp hg) rfl ?_
    rw [eN]
    refine PW.icmp_ge (tgt := 69) dX4_longestIdle_16 (by decide) (fun _ => ?_) (fun h16 => absurd (nI_le (a := grN M g) (b := s) (by omega) (by omega)) h16)
    refine PW.iload_n (i := 3) dX4_longestIdle_69 rfl rfl ?_
    exact PW.iret dX4_longestIdle_70 rfl ⟨by rw [← hr]; rfl, rfl⟩ (by decide) (by decide)
  | succ n ih =>
    intro s b t w6 hs hr
    refine PW.iload dX4_longestIdle_10 rfl ?_
    refine PW.aload_n (i := 2) dX4_longestIdle_12 rfl rfl ?_
    refine PW.getf FX4_longestIdle_146 dX4_longestIdle_13 (sm_grp hg) rfl ?_
    rw [eN]
    refine PW.icmp_ge (tgt := 69) dX4_longestIdle_16 (by decide) (fun h16 => absurd h16 (nI_ge (a := s) (b := grN M g) (by omega) (by omega))) (fun _ => ?_)
    have hs9 : s < grN M g := by omega
    refine PW.aload_n (i := 0) dX4_longestIdle_19 rfl rfl ?_
    refine PW.getf FX4_longestIdle_11 dX4_longestIdle_20 sm_desk rfl ?_
    refine PW.aload_n (i := 2) dX4_longestIdle_23 rfl rfl ?_
    refine PW.getf FX4_longestIdle_250 dX4_longestIdle_24 (sm_grp hg) rfl ?_
    refine PW.iload dX4_longestIdle_27 rfl ?_
    refine PW.iald dX4_longestIdle_29 (sm_grw hg) rfl (by omega) (iaF_get (by omega)) ?_
    refine PW.aald dX4_longestIdle_30 sm_lines (by decide) (fun _ => rfl) rfl (hmem s hs9).1 (Nat.lt_trans (hmem s hs9).2 (by decide)) (lnA_get (hmem s hs9).2) ?_
    refine PW.astore dX4_longestIdle_31 (by decide) rfl ?_
    refine PW.aload dX4_longestIdle_33 rfl ?_
    refine PW.getf FX4_longestIdle_270 dX4_longestIdle_35 (sm_line (hmem s hs9).2) rfl ?_
    refine PW.iload dX4_longestIdle_38 rfl ?_
    refine PW.icmp_ge (tgt := 63) dX4_longestIdle_40 (by decide) (fun h40 => ?_) (fun h40 => ?_)
    · refine PW.iinc (v := nI (s + 1)) dX4_longestIdle_63 rfl (nI_1 s) (by decide) rfl ?_
      refine PW.goto (tgt := 10) dX4_longestIdle_66 (by decide) ?_
      exact ih (s + 1) _ _ _ (by omega) (by rw [← hr, liL, if_neg (fun q => absurd q.1 (Int32.not_lt.mpr h40))])
    · refine PW.aload_n (i := 0) dX4_longestIdle_43 rfl rfl ?_
      refine PW.aload_n (i := 1) dX4_longestIdle_44 rfl rfl ?_
      refine PW.aload dX4_longestIdle_45 rfl ?_
      refine PW.callV (k := kX4_longestIdle) (n := 2) (c_canTake hc (hmem s hs9).2) dX4_longestIdle_47 gX4_longestIdle_X4_canTake rfl hd_X4_canTake rfl ⟨by decide, by decide⟩ ⟨rfl, rfl⟩ (Nat.le_of_ble_eq_true rfl) ⟨by decide, by decide⟩ sm_desk (by decide) rfl rfl (fun v m9 hp => ?_) (fun _ _ hx => hx.elim)
      obtain ⟨rfl, rfl⟩ := hp
      refine PW.if_eq (tgt := 63) dX4_longestIdle_50 (by decide) (fun h50 => ?_) (fun h50 => ?_)
      · refine PW.iinc (v := nI (s + 1)) dX4_longestIdle_63 rfl (nI_1 s) (by decide) rfl ?_
        refine PW.goto (tgt := 10) dX4_longestIdle_66 (by decide) ?_
        exact ih (s + 1) _ _ _ (by omega) (by rw [← hr, liL, if_neg (fun q => by rw [b2i_z h50] at q; exact absurd q.2 (by decide))])
      · refine PW.iload dX4_longestIdle_53 rfl ?_
        refine PW.istore_n (i := 3) dX4_longestIdle_55 rfl (by decide) rfl ?_
        refine PW.aload dX4_longestIdle_56 rfl ?_
        refine PW.getf FX4_longestIdle_270 dX4_longestIdle_58 (sm_line (hmem s hs9).2) rfl ?_
        refine PW.istore dX4_longestIdle_61 (by decide) rfl ?_
        refine PW.iinc (v := nI (s + 1)) dX4_longestIdle_63 rfl (nI_1 s) (by decide) rfl ?_
        refine PW.goto (tgt := 10) dX4_longestIdle_66 (by decide) ?_
        exact ih (s + 1) _ _ _ (by omega) (by rw [← hr, liL, if_pos ⟨Int32.not_le.mp h40, b2i_t h50⟩])
set_option maxRecDepth 100000 in
set_option maxHeartbeats 4000000 in
theorem c_longestIdle {M : dM} {R : pM} {c g : Nat} (hS : Sf M) (hc : c < 24) (hg : g < 4) (l9 : Launch) : pMet l9 yX4_longestIdle kX4_longestIdle false [.ref 0, .ref (2 + c), .ref (33 + 2 * g)] (SM M ++ R) (fun v m9 => v = some (.int (f_long M c g)) ∧ m9 = SM (M) ++ R) (fun _ _ => False) := by
  refine pMet.of (by decide) rfl rfl rfl (by intro v hv; simp only [List.mem_cons, List.not_mem_nil, or_false] at hv; rcases hv with rfl | rfl | rfl <;> rfl) (Nat.le_of_ble_eq_true rfl) ?_
  show PW _ _ _ _ _ 0 [some (.ref 0), some (.ref (2 + c)), some (.ref (33 + 2 * g)), none, none, none, none] [] (SM M ++ R) 0 0
  refine PW.iconst (v := (-1)) dX4_longestIdle_0 (by decide) ?_
  refine PW.istore_n (i := 3) dX4_longestIdle_1 rfl (by decide) rfl ?_
  refine PW.ldcw (v := 2147483647) dX4_longestIdle_2 (by decide +kernel) ?_
  refine PW.istore dX4_longestIdle_5 (by decide) rfl ?_
  refine PW.iconst (v := 0) dX4_longestIdle_7 (by decide) ?_
  refine PW.istore dX4_longestIdle_8 (by decide) rfl ?_
  exact li_loop hS hc hg _ 0 _ _ _ (by omega) rfl
def raL (c g : Nat) : Nat → Nat → dM → Int32 → dM × Int32
  | 0, _, M, r => (M, r)
  | n + 1, i, M, r => if f_will M c (mb M g i) = true then (if f_free M c (mb M g i) = -1 then raL c g n (i + 1) (f_ring M c (mb M g i)) r else raL c g n (i + 1) (f_ring M c (mb M g i)) 1) else raL c g n (i + 1) M r
theorem nb01 {r : Int32} (h : r = 0 ∨ r = 1) : narrow .boolean (.int r) = .int r := by rcases h with rfl | rfl <;> rfl
theorem grN_ring {M : dM} {c m g : Nat} (hc : c < 24) (hm : m < 24) (hg : g < 4) : grN (f_ring M c m) g = grN M g := by
  unfold grN
  rw [f_ring_r (by omega) (by omega) (by omega)]
theorem mb_ring {M : dM} {c m g i : Nat} (hc : c < 24) (hm : m < 24) (hg : g < 4) : mb (f_ring M c m) g i = mb M g i := by
  unfold mb
  rw [f_ring_r (by omega) (by omega) (by omega)]
set_option maxRecDepth 100000 in
set_option maxHeartbeats 4000000 in
theorem ra_loop {R : pM} {c g n0 : Nat} {fin : dM × Int32} (hc : c < 24) (hg : g < 4) : ∀ (n s : Nat) (M : dM) (r : Int32) (w5 : Option Value), Sf M → (r = 0 ∨ r = 1) → s + n = grN M g → raL c g n s M r = fin → PW kX4_ringAll false n0 (fun v m9 => v = some (.int fin.2) ∧ m9 = SM fin.1 ++ R) (fun _ _ => False) 5 [some (.ref 0), some (.ref (2 + c)), some (.ref (33 + 2 * g)), some (.int r), some (.int (nI s)), w5] [] (SM M ++ R) 0 0 := by
  intro n
  induction n with
  | zero =>
    intro s M r w5 hS hr1 hs hr
    obtain ⟨eN, hN, hmem, eS, hS6⟩ := id (hS.2.2 g hg)
    refine PW.iload dX4_ringAll_5 rfl ?_
    refine PW.aload_n (i := 2) dX4_ringAll_7 rfl rfl ?_
    refine PW.getf FX4_ringAll_146 dX4_ringAll_8 (sm_grp hg) rfl ?_
    rw [eN]
    refine PW.icmp_ge (tgt := 55) dX4_ringAll_11 (by decide) (fun _ => ?_) (fun h11 => absurd (nI_le (a := grN M g) (b := s) (by omega) (by omega)) h11)
    refine PW.iload_n (i := 3) dX4_ringAll_55 rfl rfl ?_
    exact PW.zret dX4_ringAll_56 rfl (nb01 hr1) ⟨by rw [← hr]; rfl, by rw [← hr]; rfl⟩ (by decide) (by decide)
  | succ n ih =>
    intro s M r w5 hS hr1 hs hr
    obtain ⟨eN, hN, hmem, eS, hS6⟩ := id (hS.2.2 g hg)
    refine PW.iload dX4_ringAll_5 rfl ?_
    refine PW.aload_n (i := 2) dX4_ringAll_7 rfl rfl ?_
    refine PW.getf FX4_ringAll_146 dX4_ringAll_8 (sm_grp hg) rfl ?_
    rw [eN]
    refine PW.icmp_ge (tgt := 55) dX4_ringAll_11 (by decide) (fun h11 => absurd h11 (nI_ge (a := s) (b := grN M g) (by omega) (by omega))) (fun _ => ?_)
    have hs9 : s < grN M g := by omega
    refine PW.aload_n (i := 0) dX4_ringAll_14 rfl rfl ?_
    refine PW.getf FX4_ringAll_11 dX4_ringAll_15 sm_desk rfl ?_
    refine PW.aload_n (i := 2) dX4_ringAll_18 rfl rfl ?_
    refine PW.getf FX4_ringAll_250 dX4_ringAll_19 (sm_grp hg) rfl ?_
    refine PW.iload dX4_ringAll_22 rfl ?_
    refine PW.iald dX4_ringAll_24 (sm_grw hg) rfl (by omega) (iaF_get (by omega)) ?_
    refine PW.aald dX4_ringAll_25 sm_lines (by decide) (fun _ => rfl) rfl (hmem s hs9).1 (Nat.lt_trans (hmem s hs9).2 (by decide)) (lnA_get (hmem s hs9).2) ?_
    refine PW.astore dX4_ringAll_26 (by decide) rfl ?_
    refine PW.aload_n (i := 1) dX4_ringAll_28 rfl rfl ?_
    refine PW.aload dX4_ringAll_29 rfl ?_
    refine PW.callS (k := kX4_ringAll) (n := 2) (c_isWilling hc (hmem s hs9).2) dX4_ringAll_31 gX4_ringAll_X4_isWilling rfl hs_X4_isWilling rfl ⟨by decide, by decide⟩ ⟨rfl, rfl⟩ (Nat.le_of_ble_eq_true rfl) ⟨by decide, by decide⟩ rfl (fun v m9 hp => ?_) (fun _ _ hx => hx.elim)
    obtain ⟨rfl, rfl⟩ := hp
    refine PW.if_eq (tgt := 49) dX4_ringAll_34 (by decide) (fun h34 => ?_) (fun h34 => ?_)
    · refine PW.iinc (v := nI (s + 1)) dX4_ringAll_49 rfl (nI_1 s) (by decide) rfl ?_
      refine PW.goto (tgt := 5) dX4_ringAll_52 (by decide) ?_
      exact ih (s + 1) _ _ _ hS hr1 (by omega) (by rw [← hr, raL, if_neg (by rw [b2i_z h34]; decide)])
    · refine PW.aload_n (i := 0) dX4_ringAll_37 rfl rfl ?_
      refine PW.aload_n (i := 1) dX4_ringAll_38 rfl rfl ?_
      refine PW.aload dX4_ringAll_39 rfl ?_
      refine PW.callV (k := kX4_ringAll) (n := 2) (c_ring hc (hmem s hs9).2) dX4_ringAll_41 gX4_ringAll_X4_ring rfl hd_X4_ring rfl ⟨by decide, by decide⟩ ⟨rfl, rfl⟩ (Nat.le_of_ble_eq_true rfl) ⟨by decide, by decide⟩ sm_desk (by decide) rfl rfl (fun v m9 hp => ?_) (fun _ _ hx => hx.elim)
      obtain ⟨rfl, rfl⟩ := hp
      refine PW.if_eq (tgt := 49) dX4_ringAll_44 (by decide) (fun h44 => ?_) (fun h44 => ?_)
      · refine PW.iinc (v := nI (s + 1)) dX4_ringAll_49 rfl (nI_1 s) (by decide) rfl ?_
        refine PW.goto (tgt := 5) dX4_ringAll_52 (by decide) ?_
        exact ih (s + 1) _ _ _ (hS.ring hc (hmem s hs9).2) hr1 (by rw [grN_ring hc (hmem s hs9).2 hg]; omega) (by rw [← hr, raL, if_pos (b2i_t h34), if_pos (Decidable.of_not_not (of_decide_eq_false (b2i_z h44)))])
      · refine PW.iconst (v := 1) dX4_ringAll_47 (by decide) ?_
        refine PW.istore_n (i := 3) dX4_ringAll_48 rfl (by decide) rfl ?_
        refine PW.iinc (v := nI (s + 1)) dX4_ringAll_49 rfl (nI_1 s) (by decide) rfl ?_
        refine PW.goto (tgt := 5) dX4_ringAll_52 (by decide) ?_
        exact ih (s + 1) _ _ _ (hS.ring hc (hmem s hs9).2) (Or.inr rfl) (by rw [grN_ring hc (hmem s hs9).2 hg]; omega) (by rw [← hr, raL, if_pos (b2i_t h34), if_neg (of_decide_eq_true (b2i_t h44))])
set_option maxRecDepth 100000 in
set_option maxHeartbeats 4000000 in
theorem c_ringAll {M : dM} {R : pM} {c g : Nat} (hS : Sf M) (hc : c < 24) (hg : g < 4) (l9 : Launch) : pMet l9 yX4_ringAll kX4_ringAll false [.ref 0, .ref (2 + c), .ref (33 + 2 * g)] (SM M ++ R) (fun v m9 => v = some (.int (raL c g (grN M g) 0 M 0).2) ∧ m9 = SM ((raL c g (grN M g) 0 M 0).1) ++ R) (fun _ _ => False) := by
  refine pMet.of (by decide) rfl rfl rfl (by intro v hv; simp only [List.mem_cons, List.not_mem_nil, or_false] at hv; rcases hv with rfl | rfl | rfl <;> rfl) (Nat.le_of_ble_eq_true rfl) ?_
  show PW _ _ _ _ _ 0 [some (.ref 0), some (.ref (2 + c)), some (.ref (33 + 2 * g)), none, none, none] [] (SM M ++ R) 0 0
  refine PW.iconst (v := 0) dX4_ringAll_0 (by decide) ?_
  refine PW.istore_n (i := 3) dX4_ringAll_1 rfl (by decide) rfl ?_
  refine PW.iconst (v := 0) dX4_ringAll_2 (by decide) ?_
  refine PW.istore dX4_ringAll_3 (by decide) rfl ?_
  exact ra_loop hc hg _ 0 _ _ _ hS (Or.inl rfl) (by omega) rfl
def f_at (M : dM) (c g : Nat) : Int32 := if M (28 + g) 2 = 2 then f_long M c g else f_first M c g
theorem f_at_cases (M : dM) (c g : Nat) : f_at M c g = -1 ∨ ∃ q, q < grN M g ∧ f_at M c g = nI q ∧ f_can M c (mb M g q) = true := by
  unfold f_at
  split
  · exact liL_cases M c g (grN M g) _ 0 _ _ (by omega) (Or.inl rfl)
  · exact ftL_cases M c g (grN M g) _ _ 0 (by omega)
def f_ro1 (M : dM) (c g : Nat) : dM := up2 M (28 + g) 3 (f_at M c g)
def f_rom (M : dM) (c g : Nat) : Nat := mb M g (f_at M c g).toNatClampNeg
def f_ringOne (M : dM) (c g : Nat) : dM := if f_at M c g = -1 then M else f_ring (f_ro1 M c g) c (f_rom M c g)
def f_ringOneA (M : dM) (c g : Nat) : Int32 := if f_at M c g = -1 then 0 else b2i (decide (¬ f_free (f_ro1 M c g) c (f_rom M c g) = -1))
set_option maxRecDepth 100000 in
set_option maxHeartbeats 4000000 in
theorem c_ringOne {M : dM} {R : pM} {c g : Nat} (hS : Sf M) (hc : c < 24) (hg : g < 4) (l9 : Launch) : pMet l9 yX4_ringOne kX4_ringOne false [.ref 0, .ref (2 + c), .ref (33 + 2 * g)] (SM M ++ R) (fun v m9 => v = some (.int (f_ringOneA M c g)) ∧ m9 = SM (f_ringOne M c g) ++ R) (fun _ _ => False) := by
  refine pMet.of (by decide) rfl rfl rfl (by intro v hv; simp only [List.mem_cons, List.not_mem_nil, or_false] at hv; rcases hv with rfl | rfl | rfl <;> rfl) (Nat.le_of_ble_eq_true rfl) ?_
  show PW _ _ _ _ _ 0 [some (.ref 0), some (.ref (2 + c)), some (.ref (33 + 2 * g)), none] [] (SM M ++ R) 0 0
  obtain ⟨eN, hN, hmem, eS, hS6⟩ := id (hS.2.2 g hg)
  refine PW.aload_n (i := 2) dX4_ringOne_0 rfl rfl ?_
  refine PW.getf FX4_ringOne_237 dX4_ringOne_1 (sm_grp hg) rfl ?_
  refine PW.iconst (v := 2) dX4_ringOne_4 (by decide) ?_
  refine PW.icmp_ne (tgt := 17) dX4_ringOne_5 (by decide) (fun h5 => ?_) (fun h5 => ?_)
  · refine PW.aload_n (i := 0) dX4_ringOne_17 rfl rfl ?_
    refine PW.aload_n (i := 1) dX4_ringOne_18 rfl rfl ?_
    refine PW.aload_n (i := 2) dX4_ringOne_19 rfl rfl ?_
    refine PW.callV (k := kX4_ringOne) (n := 2) (c_firstToTake hS hc hg) dX4_ringOne_20 gX4_ringOne_X4_firstToTake rfl hd_X4_firstToTake rfl ⟨by decide, by decide⟩ ⟨rfl, rfl⟩ (Nat.le_of_ble_eq_true rfl) ⟨by decide, by decide⟩ sm_desk (by decide) rfl rfl (fun v m9 hp => ?_) (fun _ _ hx => hx.elim)
    obtain ⟨rfl, rfl⟩ := hp
    first | rw [show f_first M c g = f_at M c g by rw [f_at, if_neg h5]] | skip
    refine PW.istore_n (i := 3) dX4_ringOne_23 rfl (by decide) rfl ?_
    refine PW.iload_n (i := 3) dX4_ringOne_24 rfl rfl ?_
    refine PW.iconst (v := (-1)) dX4_ringOne_25 (by decide) ?_
    refine PW.icmp_ne (tgt := 31) dX4_ringOne_26 (by decide) (fun h26 => ?_) (fun h26 => ?_)
    · obtain ⟨q, hq, eq9, -⟩ := (f_at_cases M c g).resolve_left h26
      rw [eq9]
      refine PW.aload_n (i := 2) dX4_ringOne_31 rfl rfl ?_
      refine PW.iload_n (i := 3) dX4_ringOne_32 rfl rfl ?_
      refine PW.putf FX4_ringOne_263 (Fw_1_3 _) dX4_ringOne_33 (sm_grp hg) (Nat.le_of_ble_eq_true rfl) (fun _ => rfl) (fun _ => rfl) (pu_grp hg (by decide) (by decide)) ?_
      refine PW.aload_n (i := 0) dX4_ringOne_36 rfl rfl ?_
      refine PW.aload_n (i := 1) dX4_ringOne_37 rfl rfl ?_
      refine PW.aload_n (i := 0) dX4_ringOne_38 rfl rfl ?_
      refine PW.getf FX4_ringOne_11 dX4_ringOne_39 sm_desk rfl ?_
      refine PW.aload_n (i := 2) dX4_ringOne_42 rfl rfl ?_
      refine PW.getf FX4_ringOne_250 dX4_ringOne_43 (sm_grp hg) rfl ?_
      refine PW.iload_n (i := 3) dX4_ringOne_46 rfl rfl ?_
      refine PW.iald dX4_ringOne_47 (sm_grw hg) rfl (by omega) (iaF_get (by omega)) ?_
      rw [up2_r (show 32 + g ≠ 28 + g by omega)]
      refine PW.aald dX4_ringOne_48 sm_lines (by decide) (fun _ => rfl) rfl (hmem q hq).1 (Nat.lt_trans (hmem q hq).2 (by decide)) (lnA_get (hmem q hq).2) ?_
      refine PW.callV (k := kX4_ringOne) (n := 2) (c_ring hc (hmem q hq).2) dX4_ringOne_49 gX4_ringOne_X4_ring rfl hd_X4_ring rfl ⟨by decide, by decide⟩ ⟨rfl, rfl⟩ (Nat.le_of_ble_eq_true rfl) ⟨by decide, by decide⟩ sm_desk (by decide) rfl rfl (fun v m9 hp => ?_) (fun _ _ hx => hx.elim)
      obtain ⟨rfl, rfl⟩ := hp
      exact PW.zret dX4_ringOne_52 rfl (b2i_n _) ⟨by rw [f_ringOneA, if_neg h26, f_ro1, f_rom, eq9, nI_clamp (by omega)], by rw [f_ringOne, if_neg h26, f_ro1, f_rom, eq9, nI_clamp (by omega)]⟩ (by decide) (by decide)
    · refine PW.iconst (v := 0) dX4_ringOne_29 (by decide) ?_
      exact PW.zret (v := 0) dX4_ringOne_30 rfl rfl ⟨by rw [f_ringOneA, if_pos h26], by rw [f_ringOne, if_pos h26]⟩ (by decide) (by decide)
  · refine PW.aload_n (i := 0) dX4_ringOne_8 rfl rfl ?_
    refine PW.aload_n (i := 1) dX4_ringOne_9 rfl rfl ?_
    refine PW.aload_n (i := 2) dX4_ringOne_10 rfl rfl ?_
    refine PW.callV (k := kX4_ringOne) (n := 2) (c_longestIdle hS hc hg) dX4_ringOne_11 gX4_ringOne_X4_longestIdle rfl hd_X4_longestIdle rfl ⟨by decide, by decide⟩ ⟨rfl, rfl⟩ (Nat.le_of_ble_eq_true rfl) ⟨by decide, by decide⟩ sm_desk (by decide) rfl rfl (fun v m9 hp => ?_) (fun _ _ hx => hx.elim)
    obtain ⟨rfl, rfl⟩ := hp
    rw [show f_long M c g = f_at M c g by rw [f_at, if_pos h5]]
    refine PW.goto (tgt := 23) dX4_ringOne_14 (by decide) ?_
    first | rw [show f_first M c g = f_at M c g by rw [f_at, if_neg h5]] | skip
    refine PW.istore_n (i := 3) dX4_ringOne_23 rfl (by decide) rfl ?_
    refine PW.iload_n (i := 3) dX4_ringOne_24 rfl rfl ?_
    refine PW.iconst (v := (-1)) dX4_ringOne_25 (by decide) ?_
    refine PW.icmp_ne (tgt := 31) dX4_ringOne_26 (by decide) (fun h26 => ?_) (fun h26 => ?_)
    · obtain ⟨q, hq, eq9, -⟩ := (f_at_cases M c g).resolve_left h26
      rw [eq9]
      refine PW.aload_n (i := 2) dX4_ringOne_31 rfl rfl ?_
      refine PW.iload_n (i := 3) dX4_ringOne_32 rfl rfl ?_
      refine PW.putf FX4_ringOne_263 (Fw_1_3 _) dX4_ringOne_33 (sm_grp hg) (Nat.le_of_ble_eq_true rfl) (fun _ => rfl) (fun _ => rfl) (pu_grp hg (by decide) (by decide)) ?_
      refine PW.aload_n (i := 0) dX4_ringOne_36 rfl rfl ?_
      refine PW.aload_n (i := 1) dX4_ringOne_37 rfl rfl ?_
      refine PW.aload_n (i := 0) dX4_ringOne_38 rfl rfl ?_
      refine PW.getf FX4_ringOne_11 dX4_ringOne_39 sm_desk rfl ?_
      refine PW.aload_n (i := 2) dX4_ringOne_42 rfl rfl ?_
      refine PW.getf FX4_ringOne_250 dX4_ringOne_43 (sm_grp hg) rfl ?_
      refine PW.iload_n (i := 3) dX4_ringOne_46 rfl rfl ?_
      refine PW.iald dX4_ringOne_47 (sm_grw hg) rfl (by omega) (iaF_get (by omega)) ?_
      rw [up2_r (show 32 + g ≠ 28 + g by omega)]
      refine PW.aald dX4_ringOne_48 sm_lines (by decide) (fun _ => rfl) rfl (hmem q hq).1 (Nat.lt_trans (hmem q hq).2 (by decide)) (lnA_get (hmem q hq).2) ?_
      refine PW.callV (k := kX4_ringOne) (n := 2) (c_ring hc (hmem q hq).2) dX4_ringOne_49 gX4_ringOne_X4_ring rfl hd_X4_ring rfl ⟨by decide, by decide⟩ ⟨rfl, rfl⟩ (Nat.le_of_ble_eq_true rfl) ⟨by decide, by decide⟩ sm_desk (by decide) rfl rfl (fun v m9 hp => ?_) (fun _ _ hx => hx.elim)
      obtain ⟨rfl, rfl⟩ := hp
      exact PW.zret dX4_ringOne_52 rfl (b2i_n _) ⟨by rw [f_ringOneA, if_neg h26, f_ro1, f_rom, eq9, nI_clamp (by omega)], by rw [f_ringOne, if_neg h26, f_ro1, f_rom, eq9, nI_clamp (by omega)]⟩ (by decide) (by decide)
    · refine PW.iconst (v := 0) dX4_ringOne_29 (by decide) ?_
      exact PW.zret (v := 0) dX4_ringOne_30 rfl rfl ⟨by rw [f_ringOneA, if_pos h26], by rw [f_ringOne, if_pos h26]⟩ (by decide) (by decide)
