/-! a number is called -/
theorem in_iff {x a b b' : Int32} (h : b'.toInt = b.toInt + 1) : g_in x a b = true ↔ ¬ x < a ∧ ¬ b' ≤ x := by
  unfold g_in
  rw [decide_eq_true_iff, Int32.lt_iff_toInt_lt (x := b), Int32.le_iff_toInt_le (x := b'), h]
  exact ⟨fun q => ⟨q.1, by omega⟩, fun q => ⟨q.1, by omega⟩⟩
def g_quiet (N : dM) (c : Nat) (x : Int32) : dM := if x = 51 then up2 N c 9 1 else if x = 52 then up2 N c 9 0 else N
def g_call (N : dM) (c : Nat) (x : Int32) : dM :=
  if g_in x 10 33 = true then g_callLine N c (x - 10).toNatClampNeg
  else if g_in x 40 43 = true then g_callGroup N c (x - 40).toNatClampNeg
  else if x = 50 then g_pick N c
  else if g_in x 60 63 = true then g_unpark N c (x - 60).toNatClampNeg
  else g_busy (g_quiet N c x) c
theorem CW_quiet {M N : dM} {c : Nat} {t v : Int32} (h : CW t (M c) (N c)) : CW t (up2 M c 9 v c) (up2 N c 9 v c) := by
  obtain ⟨⟨w1, w2, w3, w4, w5⟩, w6, w7, w8, w9, w10, w11, w12, w13⟩ := h
  refine ⟨⟨?_, ?_, ?_, ?_, ?_⟩, ?_, ?_, ?_, ?_, ?_, ?_, ?_, ?_⟩ <;> simp only [up2, true_and]
  · exact w1
  · exact w2
  · rfl
  · exact w4
  · exact w5
  · exact w6
  · exact w7
  · exact w8
  · exact w9
  · exact w10
  · exact w11
  · exact w12
  · exact w13
theorem Rx.quiet {c : Nat} {M N : dM} {v : Int32} (h : Rx c M N) (hc : c < 24) : Rx c (up2 M c 9 v) (up2 N c 9 v) := h.row hc EX.up EX.up (fun q => absurd rfl q) (fun _ => CW_quiet (h.2.1 hc))
theorem Iv.quiet {c : Nat} {M : dM} {v : Int32} (h : Iv 24 M) (hc : c < 24) (nd : ND c M) (h4 : ¬ M c 1 = 4) (h6 : ¬ M c 1 = 6) : Iv 24 (up2 M c 9 v) := by
  have e : ∀ j, j ≠ 9 → up2 M c 9 v c j = M c j := fun j hj => up2_j hj
  refine h.row hc nd (fun r j _ hn => up2_r hn) (e 10 (by decide)) (fun _ q => ?_) ?_ (fun q => absurd q (by omega)) ?_
  · rw [e 1 (by decide)] at q; exact absurd q h4
  · rw [e 1 (by decide)]; exact h6
  · rw [e 2 (by decide)]; exact h.2.2.2.2.2.2 c hc
theorem call_eq {c : Nat} {M N : dM} {x : Int32} (h : Rx c M N) (hI : Iv 24 M) (hS : Sf M) (ht : M 39 5 < 2147483647) (hcs : M c 1 = 2 ∨ M c 1 = 5) (hc : c < 24) : Rx 24 (f_call M c x) (g_call N c x) ∧ Iv 24 (f_call M c x) := by
  have ndc := nd_cs hI hc hcs
  have hw := h.2.1 hc
  have i1 := in_iff (x := x) (a := 10) (b := 33) (b' := 34) (by decide)
  have i2 := in_iff (x := x) (a := 40) (b := 43) (b' := 44) (by decide)
  have i3 := in_iff (x := x) (a := 60) (b := 63) (b' := 64) (by decide)
  unfold f_call g_call
  by_cases q1 : ¬ x < 10 ∧ ¬ 34 ≤ x
  · rw [if_pos q1, if_pos (i1.mpr q1)]
    obtain ⟨j, h1, h2, rfl⟩ := rng (a := 10) (b := 34) (by decide) (by decide) q1.1 q1.2
    rw [show nI j - 10 = nI (j - 10) from pk_sub (b := 10) h1, nI_clamp (by omega)]
    exact callLine_eq h hI ndc hc (by omega)
  rw [if_neg q1, if_neg (fun p => q1 (i1.mp p))]
  by_cases q2 : ¬ x < 40 ∧ ¬ 44 ≤ x
  · rw [if_pos q2, if_pos (i2.mpr q2)]
    obtain ⟨j, h1, h2, rfl⟩ := rng (a := 40) (b := 44) (by decide) (by decide) q2.1 q2.2
    rw [show nI j - 40 = nI (j - 40) from pk_sub (b := 40) h1, nI_clamp (by omega)]
    exact callGroup_eq h hI hS ht hcs hc (by omega)
  rw [if_neg q2, if_neg (fun p => q2 (i2.mp p))]
  by_cases q3 : x = 50
  · rw [if_pos q3, if_pos q3]
    exact pick_eq h hI ht hcs hc
  rw [if_neg q3, if_neg q3]
  by_cases q4 : ¬ x < 60 ∧ ¬ 64 ≤ x
  · rw [if_pos q4, if_pos (i3.mpr q4)]
    obtain ⟨j, h1, h2, rfl⟩ := rng (a := 60) (b := 64) (by decide) (by decide) q4.1 q4.2
    rw [show nI j - 60 = nI (j - 60) from pk_sub (b := 60) h1, nI_clamp (by omega)]
    exact unpark_eq h hI hS hcs hc (by omega)
  rw [if_neg q4, if_neg (fun p => q4 (i3.mp p))]
  have fin : ∀ v : Int32, Rx 24 (f_enter (up2 M c 9 v) c 5 (up2 M c 9 v 39 5)) (g_busy (up2 N c 9 v) c) ∧ Iv 24 (f_enter (up2 M c 9 v) c 5 (up2 M c 9 v 39 5)) := fun v => by
    have hI2 := hI.quiet (v := v) hc ndc hw.2.2.2.2.1 hw.2.2.2.2.2.1
    exact ⟨(h.quiet hc).busy hc rfl, hI2.enter hc (nd_cs hI2 hc (by rw [up2_j (by decide)]; exact hcs)) (by decide) (by decide) rfl⟩
  unfold f_rest g_quiet
  by_cases q5 : x = 51
  · rw [if_pos q5, if_pos q5]; exact fin 1
  rw [if_neg q5, if_neg q5]
  by_cases q6 : x = 52
  · rw [if_pos q6, if_pos q6]; exact fin 0
  rw [if_neg q6, if_neg q6]
  exact ⟨h.busy hc rfl, hI.enter hc ndc (by decide) (by decide) rfl⟩
/-! a talk ends -/
def g_fin1 (N : dM) (l m t w k : Nat) (z : Int32) : dM := f_write N w (nI k) z (N k 13) (g_units N k)
def g_fin2 (N : dM) (l m t w k : Nat) (z : Int32) : dM := f_mark (up2 (g_fin1 N l m t w k z) k 8 (g_fin1 N l m t w k z k 8 + g_units (g_fin1 N l m t w k z) k)) l m t (-1)
def g_fin3 (N : dM) (l m t w k : Nat) (z : Int32) : dM := up2 (up2 (up2 (up2 (up2 (up2 (g_fin2 N l m t w k z) l 7 0) m 7 0) l 3 (-1)) l 4 (-1)) m 3 (-1)) m 4 (-1)
def g_fin (N : dM) (l : Nat) : dM := g_fin3 N l (oth N l) (slt N l) (wr N) (payer N l) (if N l 7 = 0 then nI l else nI (oth N l))
theorem fin1_row {N : dM} {l m t w k r : Nat} {z : Int32} (hr : r < 37 ∨ 38 < r) : g_fin1 N l m t w k z r = N r := funext (fun j => f_write_r hr)
theorem fin2_row {N : dM} {l m t w k r : Nat} {z : Int32} (hl : l < 24) (hm : m < 24) (hk : k < 24) (hr : r < 24) (j : Nat) : g_fin2 N l m t w k z r j = if r = k ∧ j = 8 then N k 8 + g_units N k else N r j := by
  have eu : g_units (g_fin1 N l m t w k z) k = g_units N k := by
    unfold g_units
    rw [fin1_row (by omega), fin1_row (by omega)]
  unfold g_fin2
  rw [mark_row hl hm (Or.inl hr), eu, fin1_row (r := k) (by omega)]
  unfold up2
  rw [fin1_row (by omega)]
theorem fin3_l {N : dM} {l m t w k : Nat} {z : Int32} (hl : l < 24) (hm : m < 24) (hk : k < 24) (hlm : l ≠ m) (j : Nat) : g_fin3 N l m t w k z l j = if j = 4 then -1 else if j = 3 then -1 else if j = 7 then 0 else if l = k ∧ j = 8 then N k 8 + g_units N k else N l j := by
  unfold g_fin3
  rw [up2_r hlm, up2_r hlm]
  by_cases h4 : j = 4
  · simp [h4, up2]
  rw [up2_j h4, if_neg h4]
  by_cases h3 : j = 3
  · simp [h3, up2]
  rw [up2_j h3, up2_r hlm, if_neg h3]
  by_cases h7 : j = 7
  · simp [h7, up2]
  rw [up2_j h7, if_neg h7, fin2_row hl hm hk hl]
theorem fin3_m {N : dM} {l m t w k : Nat} {z : Int32} (hl : l < 24) (hm : m < 24) (hk : k < 24) (hlm : l ≠ m) (j : Nat) : g_fin3 N l m t w k z m j = if j = 4 then -1 else if j = 3 then -1 else if j = 7 then 0 else if m = k ∧ j = 8 then N k 8 + g_units N k else N m j := by
  have hml := Ne.symm hlm
  unfold g_fin3
  by_cases h4 : j = 4
  · simp [h4, up2]
  rw [up2_j h4, if_neg h4]
  by_cases h3 : j = 3
  · simp [h3, up2]
  rw [up2_j h3, if_neg h3, up2_r hml, up2_r hml]
  by_cases h7 : j = 7
  · simp [h7, up2]
  rw [up2_j h7, up2_r hml, if_neg h7, fin2_row hl hm hk hm]
theorem fin3_r {N : dM} {l m t w k r : Nat} {z : Int32} (h1 : r ≠ l) (h2 : r ≠ m) : g_fin3 N l m t w k z r = g_fin2 N l m t w k z r := by
  funext j
  unfold g_fin3
  rw [up2_r h2, up2_r h2, up2_r h1, up2_r h1, up2_r h2, up2_r h1]
theorem end1_row {M : dM} {l o t w k r : Nat} (hl : l < 24) (ho : o < 24) (hr : r < 24) (j : Nat) : f_end1 M l o t w k r j = if r = k ∧ j = 8 then M k 8 + f_units M k else M r j := by
  unfold f_end1
  rw [mark_row hl ho (Or.inl hr), f_write_r (by omega)]
  rfl
theorem end1_39 {M : dM} {l o t w k : Nat} (hl : l < 24) (ho : o < 24) (hk : k < 24) (j : Nat) : f_end1 M l o t w k 39 j = M 39 j := by
  unfold f_end1
  rw [mark_row hl ho (Or.inr (by decide)), f_write_r (by omega), up2_r (by omega)]
/-- the book's row and the rest, on both sides -/
theorem write_at (M : dM) (w : Nat) (c o b u : Int32) (r j : Nat) : f_write M w c o b u r j = if r = 37 ∧ j = 1 then nI (w + 1) else if r = 38 ∧ j = w % 60 * 4 + 3 then u else if r = 38 ∧ j = w % 60 * 4 + 2 then b else if r = 38 ∧ j = w % 60 * 4 + 1 then o else if r = 38 ∧ j = w % 60 * 4 then c else M r j := Eq.refl _
theorem RR.write {M N : dM} {w : Nat} {c o b u : Int32} (h : RR M N) : RR (f_write M w c o b u) (f_write N w c o b u) := by
  obtain ⟨h1, h2, h3, h4⟩ := h
  refine ⟨fun r j a b c => ?_, fun g hg ho => ?_, ?_, ?_⟩
  · rw [write_at, write_at]
    repeat' split
    all_goals first | rfl | exact h1 r j a b c
  · rw [f_write_r (by omega)] at ho
    rw [f_write_r (by omega), f_write_r (by omega)]; exact h2 g hg ho
  · rw [f_write_r (by omega), f_write_r (by omega)]; exact h3
  · rw [f_write_r (by omega), f_write_r (by omega)]; exact h4
theorem RR.row8 {M N : dM} {k j : Nat} {v w : Int32} (h : RR M N) (hk : k < 24) : RR (up2 M k j v) (up2 N k j w) := h.ex hk EX.up EX.up
theorem RR.rowL {M N : dM} {k j : Nat} {v : Int32} (h : RR M N) (hk : k < 24) : RR (up2 M k j v) N := h.ex hk EX.up EX.rfl
theorem RR.rowN {M N : dM} {k j : Nat} {w : Int32} (h : RR M N) (hk : k < 24) : RR M (up2 N k j w) := h.ex hk EX.rfl EX.up
/-- what a talking pair is -/
theorem talk_pair {M N : dM} {l : Nat} (h : Rx 24 M N) (hI : Iv 24 M) (hS : Sf M) (hl : l < 24) (h6 : M l 1 = 6) : ∃ o t, o < 24 ∧ t < 8 ∧ l ≠ o ∧ M l 3 = nI o ∧ M l 4 = nI t ∧ oth M l = o ∧ slt M l = t ∧ oth N l = o ∧ slt N l = t ∧ payer N l = payer M l ∧ wr N = wr M ∧ M o 1 = 6 ∧ M o 3 = nI l ∧ (payer M l = l ∨ payer M l = o) ∧ ¬ M (payer M l) 7 = 0 ∧ M (payer M l) 3 = (if N l 7 = 0 then nI l else nI (oth N l)) := by
  obtain ⟨o, t, ho, ht, e3, e4⟩ := (hS.1 l hl).1 (Or.inr h6)
  obtain ⟨o', ho', -, hol, e3', o6, o3, o7⟩ := hI.2.1 l hl (by omega) h6
  have : o' = o := nI_eq24 ho' ho (e3'.symm.trans e3)
  subst this
  obtain ⟨hL, -⟩ := h.1 l hl (by omega)
  have n3 : N l 3 = nI o' := by rw [← hL.2.1]; exact e3
  have n4 : N l 4 = nI t := by rw [← hL.2.2.1]; exact e4
  have n7 : N l 7 = M l 7 := hL.2.2.2.2.2.1.symm
  have eo : oth M l = o' := by rw [oth, e3, nI_clamp (by omega)]
  have en : oth N l = o' := by rw [oth, n3, nI_clamp (by omega)]
  refine ⟨o', t, ho, ht, Ne.symm hol, e3, e4, eo, by rw [slt, e4, nI_clamp (by omega)], en, by rw [slt, n4, nI_clamp (by omega)], by rw [payer, payer, n7, eo, en], by rw [wr, wr, h.2.2.1 37 1 (by decide) (by decide) (by omega)], o6, o3, ?_, ?_, ?_⟩
  · unfold payer; rw [eo]; split
    · exact Or.inr rfl
    · exact Or.inl rfl
  · unfold payer; rw [eo]; split
    · next q => exact o7.mp q
    · assumption
  · rw [n7, en]
    unfold payer
    rw [eo]
    split
    · exact o3
    · exact e3
theorem fin_eq {M N : dM} {l o : Nat} (h : Rx 24 M N) (hI : Iv 24 M) (hS : Sf M) (hl : l < 24) (h6 : M l 1 = 6) (eo : oth M l = o) :
    f_end M l = f_enter (f_enter (f_end1 M l o (slt M l) (wr M) (payer M l)) l 5 (M 39 5)) o 5 (M 39 5) ∧ o < 24 ∧ l ≠ o ∧ oth N l = o ∧ M o 1 = 6 ∧ M o 3 = nI l ∧ M l 3 = nI o ∧ payer M l < 24 ∧
    (∀ k, k < 24 → k ≠ l → k ≠ o → LR (f_end1 M l o (slt M l) (wr M) (payer M l) k) (g_fin N l k) ∧ CL (f_end1 M l o (slt M l) (wr M) (payer M l) k)) ∧
    (KR (f_end1 M l o (slt M l) (wr M) (payer M l) l) (g_fin N l l) ∧ g_fin N l l 3 = -1 ∧ g_fin N l l 4 = -1 ∧ g_fin N l l 1 = 6) ∧
    (KR (f_end1 M l o (slt M l) (wr M) (payer M l) o) (g_fin N l o) ∧ g_fin N l o 3 = -1 ∧ g_fin N l o 4 = -1 ∧ g_fin N l o 1 = 6) ∧
    RR (f_end1 M l o (slt M l) (wr M) (payer M l)) (g_fin N l) := by
  obtain ⟨o', t, ho, ht, hlo, e3, e4, eo', es, en, ens, ep, ew, o6, o3, hp, hp7, hp3⟩ := talk_pair h hI hS hl h6
  have : o' = o := eo'.symm.trans eo
  subst this
  have hk : payer M l < 24 := by rcases hp with q | q <;> (rw [q]; assumption)
  obtain ⟨hLl, hCl⟩ := h.1 l hl (by omega)
  obtain ⟨hLo, hCo⟩ := h.1 o' ho (by omega)
  obtain ⟨hLk, hCk⟩ := h.1 _ hk (by omega)
  have eT : M 39 5 = N 39 5 := h.2.2.2.2.1
  have e13 : M (payer M l) 2 = N (payer M l) 13 := hLk.2.2.2.2.2.2.2.2.2.2.2 hp7
  have eu : f_units M (payer M l) = g_units N (payer M l) := by unfold f_units g_units; rw [eT, e13]
  have e8 : M (payer M l) 8 = N (payer M l) 8 := hLk.2.2.2.2.2.2.1
  have eG : g_fin N l = g_fin3 N l o' t (wr M) (payer M l) (M (payer M l) 3) := by unfold g_fin; rw [ens, ep, ew, ← hp3, en]
  have E39 : f_end1 M l o' (slt M l) (wr M) (payer M l) 39 5 = M 39 5 := end1_39 hl ho hk 5
  refine ⟨?_, ho, hlo, en, o6, o3, e3, hk, fun k hk9 kl ko => ?_, ⟨?_, ?_, ?_, ?_⟩, ⟨?_, ?_, ?_, ?_⟩, ?_⟩
  · unfold f_end f_end3 f_end2
    rw [eo', E39, f_enter_r (by omega), E39]
  · have kp : k ≠ payer M l := by rcases hp with q | q <;> rw [q] <;> assumption
    have a1 : f_end1 M l o' (slt M l) (wr M) (payer M l) k = M k := funext (fun j => by rw [end1_row hl ho hk9, if_neg (fun q => kp q.1)])
    have a2 : g_fin N l k = N k := funext (fun j => by rw [eG, fin3_r kl ko, fin2_row hl ho hk hk9, if_neg (fun q => kp q.1)])
    rw [a1, a2]; exact h.1 k hk9 (by omega)
  · unfold KR
    rw [eG]
    simp only [end1_row hl ho hl, fin3_l hl ho hk hlo]
    obtain ⟨b1, b3, b4, b5, b6, b7, b8, b9, b10, b11⟩ := hLl
    by_cases q : l = payer M l
    · simp [← q, b6, b9, b10]
      rw [← q] at e8 eu
      rw [e8, eu]
    · simp [q, b6, b8, b9, b10]
  · rw [eG, fin3_l hl ho hk hlo]; rfl
  · rw [eG, fin3_l hl ho hk hlo]; rfl
  · rw [eG, fin3_l hl ho hk hlo]; simp; rw [← hLl.1]; exact h6
  · unfold KR
    rw [eG]
    simp only [end1_row hl ho ho, fin3_m hl ho hk hlo]
    obtain ⟨b1, b3, b4, b5, b6, b7, b8, b9, b10, b11⟩ := hLo
    by_cases q : o' = payer M l
    · simp [← q, b6, b9, b10]
      rw [← q] at e8 eu
      rw [e8, eu]
    · simp [q, b6, b8, b9, b10]
  · rw [eG, fin3_m hl ho hk hlo]; rfl
  · rw [eG, fin3_m hl ho hk hlo]; rfl
  · rw [eG, fin3_m hl ho hk hlo]; simp; rw [← hLo.1]; exact o6
  · rw [eG, es]
    unfold f_end1 g_fin3 g_fin2 g_fin1
    rw [up2_j (M := M) (by decide), up2_j (M := M) (by decide), eu, e13]
    refine RR.rowN (RR.rowN (RR.rowN (RR.rowN (RR.rowN (RR.rowN (RR.mark ?_ hl ho) hl) ho) hl) hl) ho) ho
    refine RR.rowN (RR.write (RR.rowL h.2.2 hk)) hk
