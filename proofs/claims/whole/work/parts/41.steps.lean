/-! EACH CALL, side by side; n counts the calls so far -/
def Inv (n : Nat) (M : dM) : Prop := Sf M ∧ Iv 24 M ∧ St M ∧ (M 39 5).toInt ≤ 1000 * (n : Int) ∧ M 37 1 = nI (wr M) ∧ wr M ≤ n
def Ok (n : Nat) (M N : dM) : Prop := Rx 24 M N ∧ Inv n M
theorem Inv.time {n : Nat} {M : dM} (h : Inv n M) (hn : n ≤ 100000) : M 39 5 < 2147483647 := Int32.lt_iff_toInt_lt.mpr (by
  have e : (2147483647 : Int32).toInt = 2147483647 := by decide
  have := h.2.2.2.1
  omega)
theorem Inv.fr {n : Nat} {M M' : dM} (h : Inv n M) (hf : Fr M M') (hS : Sf M') (hI : Iv 24 M') (hs : St M') : Inv (n + 1) M' := by
  obtain ⟨-, -, -, a4, a5, a6⟩ := h
  have ew : wr M' = wr M := by rw [wr, wr, hf.2]
  refine ⟨hS, hI, hs, ?_, ?_, ?_⟩
  · rw [hf.1]; push_cast; omega
  · rw [hf.2, ew]; exact a5
  · rw [ew]; omega
theorem Rx.thr {x : Nat} {M N : dM} {v : Int32} (h : Rx x M N) : Rx x M (up2 N 39 7 v) := by
  have er : ∀ l, l ≠ 39 → up2 N 39 7 v l = N l := fun l hl => funext (fun j => up2_r hl)
  have e5 : ∀ j, j ≠ 7 → up2 N 39 7 v 39 j = N 39 j := fun j hj => up2_j hj
  obtain ⟨h1, h2, a1, a2, a3, a4⟩ := h
  refine ⟨fun l a9 b9 => ?_, fun a9 => ?_, fun r j a b c => ?_, fun g hg ho => ?_, ?_, ?_⟩
  · rw [er l (by omega)]; exact h1 l a9 b9
  · rw [e5 5 (by decide), er x (by omega)]; exact h2 a9
  · rw [er r (by omega)]; exact a1 r j a b c
  · rw [er _ (by omega)]; exact a2 g hg ho
  · rw [e5 5 (by decide)]; exact a3
  · rw [e5 6 (by decide)]; exact a4
theorem Ok.thr {n : Nat} {M N : dM} {v : Int32} (h : Ok n M N) : Ok n M (up2 N 39 7 v) := ⟨h.1.thr, h.2⟩
theorem Ok.st1 {n l : Nat} {M N : dM} (h : Ok n M N) (hl : l < 24) : M l 1 = N l 1 := (h.1.1 l hl (by omega)).1.1
/-- what ends with settling -/
theorem settled {n : Nat} {M0 M N : dM} (h0 : Inv n M0) (hf : Fr M0 M) (h : Rx 24 M N) (hI : Iv 24 M) (hS : Sf M) : Ok (n + 1) (f_camps M) (g_settle N) := by
  obtain ⟨a, b⟩ := settle_eq 24 0 M N rfl h hI hS
  exact ⟨a, h0.fr (hf.trans (Fr.camps hS)) hS.camps b (St.camps hS)⟩
/-! 1: up -/
def g_up0 (N : dM) (l : Nat) : dM := if N l 1 = 0 then g_bec N l 1 else g_conn (huL (oth N l) (nI l) 24 0 N) (oth N l) l (huL (oth N l) (nI l) 24 0 N l 4)
def g_up (N : dM) (l : Nat) : dM := g_settle (g_up0 N l)
theorem hook_iff {M : dM} {l : Nat} : f_hook M l = true ↔ M l 1 = 0 ∨ M l 1 = 4 := by unfold f_hook; exact decide_eq_true_iff
theorem up_eq {n l : Nat} {M N : dM} (h : Ok n M N) (hl : l < 24) (hh : f_hook M l = true) : Ok (n + 1) (f_up M l) (g_up N l) := by
  obtain ⟨hR, hV⟩ := h
  obtain ⟨hS, hI, hs, a4, a5⟩ := id hV
  obtain ⟨hL, hC⟩ := hR.1 l hl (by omega)
  unfold f_up g_up g_up0
  rcases hook_iff.mp hh with h0 | h4
  · have c1 : ¬ M l 1 = 4 := ne_of_st h0 (by decide)
    rw [if_neg c1, if_pos (by rw [← hL.1]; exact h0)]
    have n3 : N l 3 = -1 := by rw [← hL.2.1]; exact hC.1 (ne_of_st h0 (by decide)) (ne_of_st h0 (by decide)) (ne_of_st h0 (by decide)) (ne_of_st h0 (by decide))
    have n4 : N l 4 = -1 := by rw [← hL.2.2.1]; exact hC.2.1 (ne_of_st h0 (by decide)) (ne_of_st h0 (by decide))
    have kr := hL.kr (hC.2.2.2 (ne_of_st h0 (by decide)))
    have r : Rx 24 (f_enter M l 1 (M 39 5)) (g_bec N l 1) := hR.row hl EX.enter EX.bec (fun _ => LR_to hl kr n3 n4 hR.2.2.2.2.1 (by decide)) (fun q => absurd q (by omega))
    have s : St (f_enter M l 1 (M 39 5)) := fun k hk k0 => by
      obtain ⟨b1, b2⟩ := enter_st (M := M) (c := l) (k := k) (s := 1) (n := M 39 5) (by decide)
      rw [b1]; exact hs k hk (b2 k0)
    have e : g_settle (g_bec N l 1) = g_bec N l 1 := se_id 24 0 _ rfl (r.st s)
    rw [e]
    exact ⟨r, hV.fr (Fr.enter hl) (hS.enter hl (by decide) (by decide) (by decide) (by decide)) (hI.enter hl (hI.nd hl (by omega) (ne_of_st h0 (by decide)) (ne_of_st h0 (by decide)) (ne_of_st h0 (by decide)) (ne_of_st h0 (by decide))) (by decide) (by decide) rfl) s⟩
  · have c1 : ¬ N l 1 = 0 := by rw [← hL.1]; exact ne_of_st h4 (by decide)
    obtain ⟨o, t, ho, ht, e3, e4⟩ := (hS.1 l hl).1 (Or.inl h4)
    have eo : oth M l = o := by rw [oth, e3, nI_clamp (by omega)]
    have en : oth N l = o := by rw [oth, ← hL.2.1, e3, nI_clamp (by omega)]
    have et : slt M l = t := by rw [slt, e4, nI_clamp (by omega)]
    obtain ⟨r1, -⟩ := hush_eq (x := 24) (c := o) (b := l) (w := nI l) ho (fun k hk => ⟨fun q => by rw [q], fun q => nI_eq24 hk hl q⟩) 24 0 M N rfl hR hI
    have rl : spB o l 24 0 M l = M l := spB_row ho (Or.inl hl) 24 0 M rfl (fun q => q.2.2.2 rfl)
    have e4n : huL o (nI l) 24 0 N l 4 = nI t := by rw [← (r1.1 l hl (by omega)).1.2.2.1, rl]; exact e4
    rw [if_pos h4, if_neg c1, eo, en, et, e4n]
    obtain ⟨b1, b2⟩ := answer_eq (b := nI t) hR hI hl ho h4 e3
    exact settled hV ((Fr.begin ho hl).trans (Fr.stop ho)) b1 b2 ((hS.begin ho hl ht).stop ho)
/-! 2: down -/
def g_down (N : dM) (l : Nat) : dM := g_settle (g_bec (g_leave N l) l 0)
theorem end_37 {M N : dM} {l : Nat} (h : Rx 24 M N) (hI : Iv 24 M) (hS : Sf M) (hl : l < 24) (h6 : M l 1 = 6) : f_end M l 37 1 = nI (wr M + 1) := by
  obtain ⟨-, ho, hlo, en, o6, o3, l3, hk, -⟩ := fin_eq h hI hS hl h6 rfl
  rw [(end_rows h hI hS hl h6 rfl).2.2.1 37 (by omega) (by omega)]
  unfold f_end1
  rw [mark_row hl ho (Or.inr (by decide)), write_at]
  rfl
/-- one entry more at most -/
theorem Inv.fr1 {n : Nat} {M M' : dM} (h : Inv n M) (hn : n < 100000) (h5 : M' 39 5 = M 39 5) (h37 : M' 37 1 = M 37 1 ∨ M' 37 1 = nI (wr M + 1)) (hS : Sf M') (hI : Iv 24 M') (hs : St M') : Inv (n + 1) M' := by
  rcases h37 with q | q
  · exact h.fr ⟨h5, q⟩ hS hI hs
  · obtain ⟨-, -, -, a4, a5, a6⟩ := h
    have ew : wr M' = wr M + 1 := by rw [wr, q, nI_clamp (by omega)]
    exact ⟨hS, hI, hs, by rw [h5]; push_cast; omega, by rw [q, ew], by omega⟩
theorem leave_37 {M N : dM} {l : Nat} (h : Rx 24 M N) (hI : Iv 24 M) (hS : Sf M) (hl : l < 24) : f_leave M l 37 1 = M 37 1 ∨ f_leave M l 37 1 = nI (wr M + 1) := by
  unfold f_leave
  split
  · next h6 => exact Or.inr (end_37 h hI hS hl h6)
  · left
    split
    · exact (Fr.stop hl).2
    · split
      · exact up2_r (by omega)
      · split
        · next h8 =>
          obtain ⟨o, ho, e3⟩ := (hS.1 l hl).2.2.1 h8
          rw [oth, e3, nI_clamp (by omega), up2_r (by omega)]
        · rfl
theorem down_eq {n l : Nat} {M N : dM} (hn : n < 100000) (h : Ok n M N) (hl : l < 24) : Ok (n + 1) (f_down M l) (g_down N l) := by
  obtain ⟨hR, hV⟩ := h
  obtain ⟨hS, hI, hs, a4, a5⟩ := id hV
  obtain ⟨b1, b2, b3⟩ := leave_eq hR hI hS hl
  have r1 := b1.idle (t := f_leave M l 39 5) hl rfl
  have r2 := b2.enter (s := 0) (t := f_leave M l 39 5) hl b3 (by decide) (by decide) rfl
  have r3 : Sf (f_enter (f_leave M l) l 0 (f_leave M l 39 5)) := (hS.leave hl).enter hl (by decide) (by decide) (by decide) (by decide)
  obtain ⟨c1, c2⟩ := settle_eq 24 0 _ _ rfl r1 r2 r3
  have f1 : Fr (f_leave M l) (f_down M l) := (Fr.enter hl).trans (Fr.camps r3)
  refine ⟨c1, hV.fr1 hn (f1.1.trans (t_leave hS hl)) ?_ r3.camps c2 (St.camps r3)⟩
  rw [f1.2]; exact leave_37 hR hI hS hl
/-! 3: digit -/
def g_digit (N : dM) (l : Nat) (d : Int32) : dM := if N l 1 = 1 then up2 (g_bec N l 2) l 6 d else if N l 1 = 2 then g_settle (g_call N l (10 * N l 6 + d)) else N
theorem LR_dig {M N : dM} {c : Nat} {v : Int32} (h : LR (M c) (N c) ∧ CL (M c)) : LR (up2 M c 6 v c) (up2 N c 6 v c) ∧ CL (up2 M c 6 v c) := by
  obtain ⟨⟨b1, b3, b4, b5, b6, b7, b8, b9, b10, b11, b12, b13⟩, d1, d2, d3, d4⟩ := h
  refine ⟨⟨?_, ?_, ?_, ?_, ?_, ?_, ?_, ?_, ?_, ?_, ?_, ?_⟩, ?_, ?_, ?_, ?_⟩ <;> simp only [up2, true_and]
  · exact b1
  · exact b3
  · exact b4
  · exact b5
  · rfl
  · exact b7
  · exact b8
  · exact b9
  · exact b10
  · exact b11
  · exact b12
  · exact b13
  · exact d1
  · exact d2
  · exact d3
  · exact d4
theorem Rx.dig {q : Nat} {M N : dM} {v : Int32} (h : Rx 24 M N) (hq : q < 24) : Rx 24 (up2 M q 6 v) (up2 N q 6 v) := h.row hq EX.up EX.up (fun _ => LR_dig (h.1 q hq (by omega))) (fun e => absurd e (by omega))
theorem Iv.dig {c : Nat} {M : dM} {v : Int32} (h : Iv 24 M) (hc : c < 24) (nd : ND c M) (h4 : ¬ M c 1 = 4) (h6 : ¬ M c 1 = 6) : Iv 24 (up2 M c 6 v) := by
  have e : ∀ j, j ≠ 6 → up2 M c 6 v c j = M c j := fun j hj => up2_j hj
  refine h.row hc nd (fun r j _ hn => up2_r hn) (e 10 (by decide)) (fun _ q => ?_) ?_ (fun q => absurd q (by omega)) ?_
  · rw [e 1 (by decide)] at q; exact absurd q h4
  · rw [e 1 (by decide)]; exact h6
  · rw [e 2 (by decide)]; exact h.2.2.2.2.2.2 c hc
theorem CW_of {M N : dM} {l : Nat} {t : Int32} (h : LR (M l) (N l)) (hC : CL (M l)) (hs : M l 1 = 2 ∨ M l 1 = 5) : CW t (M l) (N l) := by
  obtain ⟨b1, b3, b4, b5, b6, b7, b8, b9, b10, b11⟩ := h
  rcases hs with q | q
  · have d1 := hC.1 (ne_of_st q (by decide)) (ne_of_st q (by decide)) (ne_of_st q (by decide)) (ne_of_st q (by decide))
    have d2 := hC.2.1 (ne_of_st q (by decide)) (ne_of_st q (by decide))
    have d4 := hC.2.2.2 (ne_of_st q (by decide))
    exact ⟨⟨b6, b8, b9, b10, by rw [← b7]; exact d4⟩, by rw [← b3]; exact d1, by rw [← b4]; exact d2, ne_of_st q (by decide), ne_of_st q (by decide), ne_of_st q (by decide), by rw [← b1]; exact ne_of_st q (by decide), by rw [← b1]; exact ne_of_st q (by decide), fun z => absurd (b1.trans z) (ne_of_st q (by decide))⟩
  · have d1 := hC.1 (ne_of_st q (by decide)) (ne_of_st q (by decide)) (ne_of_st q (by decide)) (ne_of_st q (by decide))
    have d2 := hC.2.1 (ne_of_st q (by decide)) (ne_of_st q (by decide))
    have d4 := hC.2.2.2 (ne_of_st q (by decide))
    exact ⟨⟨b6, b8, b9, b10, by rw [← b7]; exact d4⟩, by rw [← b3]; exact d1, by rw [← b4]; exact d2, ne_of_st q (by decide), ne_of_st q (by decide), ne_of_st q (by decide), by rw [← b1]; exact ne_of_st q (by decide), by rw [← b1]; exact ne_of_st q (by decide), fun z => absurd (b1.trans z) (ne_of_st q (by decide))⟩
theorem Inv.up1 {n : Nat} {M : dM} (h : Inv n M) : Inv (n + 1) M := h.fr Fr.ref h.1 h.2.1 h.2.2.1
theorem digit_eq {n l : Nat} {M N : dM} {d : Int32} (hn : n < 100000) (h : Ok n M N) (hl : l < 24) : Ok (n + 1) (f_digit M l d) (g_digit N l d) := by
  obtain ⟨hR, hV⟩ := h
  obtain ⟨hS, hI, hs, a4, a5⟩ := id hV
  obtain ⟨hL, hC⟩ := hR.1 l hl (by omega)
  unfold f_digit g_digit
  rw [← hL.1]
  by_cases h1 : M l 1 = 1
  · rw [if_pos h1, if_pos h1]
    have n3 : N l 3 = -1 := by rw [← hL.2.1]; exact hC.1 (ne_of_st h1 (by decide)) (ne_of_st h1 (by decide)) (ne_of_st h1 (by decide)) (ne_of_st h1 (by decide))
    have n4 : N l 4 = -1 := by rw [← hL.2.2.1]; exact hC.2.1 (ne_of_st h1 (by decide)) (ne_of_st h1 (by decide))
    have kr := hL.kr (hC.2.2.2 (ne_of_st h1 (by decide)))
    have r : Rx 24 (f_enter M l 2 (M 39 5)) (g_bec N l 2) := hR.row hl EX.enter EX.bec (fun _ => LR_to hl kr n3 n4 hR.2.2.2.2.1 (by decide)) (fun q => absurd q (by omega))
    have nd := hI.nd hl (by omega) (ne_of_st h1 (by decide)) (ne_of_st h1 (by decide)) (ne_of_st h1 (by decide)) (ne_of_st h1 (by decide))
    have i2 := hI.enter (s := 2) (t := M 39 5) hl nd (by decide) (by decide) rfl
    have s2 : f_enter M l 2 (M 39 5) l 1 = 2 := by rw [f_enter_s]; rfl
    refine ⟨r.dig hl, hV.fr ((Fr.enter hl).trans (Fr.up (by omega))) ((hS.enter hl (by decide) (by decide) (by decide) (by decide)).flag hl (by omega)) (i2.dig hl (nd_cs i2 hl (Or.inl s2)) (ne_of_st s2 (by decide)) (ne_of_st s2 (by decide))) (fun k hk k0 => ?_)⟩
    rw [up2_j (by decide)] at k0 ⊢
    obtain ⟨b1, b2⟩ := enter_st (M := M) (c := l) (k := k) (s := 2) (n := M 39 5) (by decide)
    rw [b1]; exact hs k hk (b2 k0)
  · rw [if_neg h1, if_neg h1]
    by_cases h2 : M l 1 = 2
    · rw [if_pos h2, if_pos h2, Int32.mul_comm 10 (N l 6), ← hL.2.2.2.2.1]
      have hx := hR.ex0 (CW_of (t := N 39 5) hL hC (Or.inl h2))
      obtain ⟨b1, b2⟩ := call_eq (x := M l 6 * 10 + d) hx hI hS (hV.time (by omega)) (Or.inl h2) hl
      exact settled hV (Fr.call hS hl) b1 b2 (hS.call hl)
    · rw [if_neg h2, if_neg h2]
      exact ⟨hR, hV.up1⟩
/-! 4: camp -/
def g_camp (N : dM) (l : Nat) : dM := up2 (up2 (g_bec N l 8) l 3 (N l 5)) (ltf N l) 10 (nI l)
theorem Iv.camp1 {c l : Nat} {M : dM} (h : Iv 24 M) (hl : l < 24) (hc : c < 24) (h8 : M c 1 = 8) (h3 : M c 3 = nI l) : Iv 24 (up2 M l 10 (nI c)) := by
  have e : ∀ r j, j ≠ 10 → up2 M l 10 (nI c) r j = M r j := fun r j hj => up2_j hj
  have e36 : ∀ p, up2 M l 10 (nI c) 36 p = M 36 p := fun p => up2_r (by omega)
  obtain ⟨a1, a2, a3, a4, a5, a6, a7⟩ := h
  refine ⟨fun q hq hx h4 => ?_, fun q hq hx h6 => ?_, fun p hp q hq h => ?_, fun q hq d hd h => ?_, fun hx => absurd hx (by omega), by rw [e 39 5 (by decide)]; exact a6, fun q hq => by rw [e q 2 (by decide), e 39 5 (by decide)]; exact a7 q hq⟩
  · rw [e q 1 (by decide)] at h4
    obtain ⟨o, ho, b1, b2, b3⟩ := a1 q hq hx h4
    exact ⟨o, ho, b1, by rw [e q 3 (by decide)]; exact b2, by rw [e o 1 (by decide)]; exact b3⟩
  · rw [e q 1 (by decide)] at h6
    obtain ⟨o, ho, b0, b1, b2, b3, b4, b5⟩ := a2 q hq hx h6
    exact ⟨o, ho, b0, b1, by rw [e q 3 (by decide)]; exact b2, by rw [e o 1 (by decide)]; exact b3, by rw [e o 3 (by decide)]; exact b4, by rw [e q 7 (by decide), e o 7 (by decide)]; exact b5⟩
  · rw [e36] at h
    rw [e q 1 (by decide), e q 3 (by decide)]; exact a3 p hp q hq h
  · rw [e d 1 (by decide), e d 3 (by decide)]
    by_cases ql : q = l
    · subst ql
      rw [up2_s] at h
      have : c = d := nI_eq24 hc hd h
      subst this
      exact ⟨by omega, h8, h3⟩
    · rw [up2_r ql] at h
      exact a4 q hq d hd h
theorem camp_eq {n l : Nat} {M N : dM} (h : Ok n M N) (hl : l < 24) (hk : okC M l) : Ok (n + 1) (f_camp M l) (g_camp N l) := by
  obtain ⟨hR, hV⟩ := h
  obtain ⟨hS, hI, hs, a4, a5⟩ := id hV
  obtain ⟨hL, hC⟩ := hR.1 l hl (by omega)
  obtain ⟨k1, k2, k3⟩ := hk
  obtain ⟨m, hm, e5⟩ := ((hS.1 l hl).2.2.2.2).resolve_left k1
  have em : ltf M l = m := by rw [ltf, e5, nI_clamp (by omega)]
  have en5 : N l 5 = nI m := by rw [← hL.2.2.2.1]; exact e5
  have en : ltf N l = m := by rw [ltf, en5, nI_clamp (by omega)]
  rw [em] at k2 k3
  have h5 : M l 1 = 5 := Decidable.byContradiction (fun q => k1 (hC.2.2.1 q))
  unfold f_camp g_camp
  rw [em, en, e5, en5]
  have n4 : N l 4 = -1 := by rw [← hL.2.2.1]; exact hC.2.1 (ne_of_st h5 (by decide)) (ne_of_st h5 (by decide))
  have h7 := hC.2.2.2 (ne_of_st h5 (by decide))
  have r : Rx 24 (up2 (f_enter M l 8 (M 39 5)) l 3 (nI m)) (up2 (g_bec N l 8) l 3 (nI m)) := by
    refine hR.row hl (EX.enter.trans EX.up) (EX.bec.trans EX.up) (fun _ => ?_) (fun q => absurd q (by omega))
    obtain ⟨b1, b3, b4, b5, b6, b7, b8, b9, b10, b11⟩ := hL
    rw [b7] at h7
    unfold LR CL
    simp only [up2, true_and, f_enter_s, becS_s hl (by decide : ¬ (8 : Int32) = 0)]
    simp [b6, b8, b9, b10, h7, n4, hR.2.2.2.2.1]
  have nd := hI.nd hl (by omega) (ne_of_st h5 (by decide)) (ne_of_st h5 (by decide)) (ne_of_st h5 (by decide)) (ne_of_st h5 (by decide))
  have e8 : ∀ j, j ≠ 3 → up2 (f_enter M l 8 (M 39 5)) l 3 (nI m) l j = f_enter M l 8 (M 39 5) l j := fun j hj => up2_j hj
  have i1 : Iv 24 (up2 (f_enter M l 8 (M 39 5)) l 3 (nI m)) := by
    refine hI.row hl nd (fun r j _ hn => by rw [up2_r hn, f_enter_r hn]) ?_ (fun _ q => ?_) ?_ (fun q => absurd q (by omega)) ?_
    · rw [e8 10 (by decide), f_enter_s]; rfl
    · rw [e8 1 (by decide), f_enter_s] at q; exact absurd (show (8 : Int32) = 4 from q) (by decide)
    · rw [e8 1 (by decide), f_enter_s]; exact (by decide : ¬ (8 : Int32) = 6)
    · rw [e8 2 (by decide), f_enter_s]; exact hI.now
  have s8 : up2 (f_enter M l 8 (M 39 5)) l 3 (nI m) l 1 = 8 := by rw [e8 1 (by decide), f_enter_s]; rfl
  have sf1 : Sf (up2 (f_enter M l 8 (M 39 5)) l 3 (nI m)) := by
    refine hS.line (l := l) (fun r j hr _ => by rw [up2_r hr, f_enter_r hr]) hl ?_
    unfold lnOK
    rw [s8, up2_s, e8 10 (by decide), e8 5 (by decide), f_enter_s, f_enter_s]
    exact ⟨fun q => by rcases q with q | q <;> exact absurd q (by decide), fun q => absurd q (by decide), fun _ => ⟨m, hm, rfl⟩, (hS.1 l hl).2.2.2.1, Or.inl rfl⟩
  refine ⟨r.camp (x := 24) hm, hV.fr (((Fr.enter hl).trans (Fr.up (by omega))).trans (Fr.up (by omega))) (sf1.camp0 hm (Or.inr ⟨l, hl, rfl⟩)) (i1.camp1 hm hl s8 (up2_s _ _ _ _)) (fun k hk k0 => ?_)⟩
  rw [up2_j (show (1 : Nat) ≠ 10 by decide)] at k0
  by_cases kl : k = l
  · subst kl; rw [s8] at k0; exact absurd k0 (by decide)
  · rw [up2_r kl, f_enter_r kl] at k0
    by_cases km : k = m
    · subst km; exact absurd k0 k2
    · rw [up2_r km, up2_r kl, f_enter_r kl]; exact hs k hk k0
