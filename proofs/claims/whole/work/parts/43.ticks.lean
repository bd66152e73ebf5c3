/-! 8: tick. The desk leaps to the next due tick; the model looks at every one -/
abbrev act1 (s a : Int32) : Prop := (s = 1 ∨ s = 2) ∧ 100 ≤ a
abbrev act2 (s a : Int32) : Prop := (s = 3 ∧ 300 ≤ a) ∨ (s = 7 ∧ 600 ≤ a)
def g_watch (N : dM) (l : Nat) : dM := if act1 (N l 1) (N 39 5 - N l 2) then g_bec N l 9 else if act2 (N l 1) (N 39 5 - N l 2) then g_settle (g_busy (g_leave N l) l) else N
def waL : Nat → Nat → dM → dM
  | 0, _, N => N
  | n + 1, l, N => waL n (l + 1) (g_watch N l)
def tiL : Nat → dM → dM
  | 0, N => N
  | k + 1, N => tiL k (waL 24 0 (up2 N 39 5 (N 39 5 + 1)))
def LK (M : dM) : Prop := Sf M ∧ Iv 24 M ∧ St M ∧ (M 39 5).toInt ≤ 1000000000
theorem toInt_sub_small {a b : Int32} (ha : 0 ≤ a.toInt) (ha2 : a.toInt ≤ 1000000000) (hb : -1 ≤ b.toInt) (hb2 : b.toInt ≤ a.toInt) : (a - b).toInt = a.toInt - b.toInt := by
  rw [Int32.toInt_sub]
  rw [Int.bmod_eq_of_le] <;> omega
theorem toInt_add_small {b : Int32} (c : Int32) (hb : -1 ≤ b.toInt) (hb2 : b.toInt ≤ 1000000000) (hc : 0 ≤ c.toInt) (hc2 : c.toInt ≤ 1000) : (b + c).toInt = b.toInt + c.toInt := by
  rw [Int32.toInt_add]
  rw [Int.bmod_eq_of_le] <;> omega
theorem due_iff {t b c : Int32} (ht : 0 ≤ t.toInt) (ht2 : t.toInt ≤ 1000000000) (hb : -1 ≤ b.toInt) (hb2 : b.toInt ≤ t.toInt) (hc : 0 ≤ c.toInt) (hc2 : c.toInt ≤ 1000) : c ≤ t - b ↔ ¬ t < b + c := by
  rw [Int32.le_iff_toInt_le, Int32.lt_iff_toInt_lt, toInt_sub_small ht ht2 hb hb2, toInt_add_small c hb (by omega) hc hc2]
  omega
/-- when a line's time is up, on both sides -/
theorem act_iff {M N : dM} {l : Nat} (h : Rx 24 M N) (hK : LK M) (hl : l < 24) : (act1 (N l 1) (N 39 5 - N l 2) ↔ (M l 1 = 1 ∨ M l 1 = 2) ∧ ¬ M 39 5 < f_due M l) ∧ (act2 (N l 1) (N 39 5 - N l 2) ↔ (M l 1 = 3 ∨ M l 1 = 7) ∧ ¬ M 39 5 < f_due M l) ∧ (¬ M 39 5 < f_due M l → M l 1 = 1 ∨ M l 1 = 2 ∨ M l 1 = 3 ∨ M l 1 = 7) := by
  obtain ⟨hL, -⟩ := h.1 l hl (by omega)
  obtain ⟨hS, hI, hs, ht2⟩ := hK
  have ht := hI.2.2.2.2.2.1
  obtain ⟨hb, hb2⟩ := hI.2.2.2.2.2.2 l hl
  have e5 : N 39 5 = M 39 5 := h.2.2.2.2.1.symm
  have e1 : N l 1 = M l 1 := hL.1.symm
  have hm : M 39 5 < 2147483647 := Int32.lt_iff_toInt_lt.mpr (by have e : (2147483647 : Int32).toInt = 2147483647 := by decide
                                                                 omega)
  have e2 : ¬ M l 1 = 0 → N l 2 = M l 2 := fun q => (hL.2.2.2.2.2.2.2.2.2.2.1 q).symm
  rw [e5, e1]
  unfold act1 act2 f_due
  by_cases c1 : M l 1 = 1 ∨ M l 1 = 2
  · rw [if_pos c1, e2 (by rcases c1 with q | q <;> exact ne_of_st q (by decide))]
    have d := due_iff (c := 100) ht ht2 hb hb2 (by decide) (by decide)
    refine ⟨⟨fun q => ⟨q.1, d.mp q.2⟩, fun q => ⟨q.1, d.mpr q.2⟩⟩, ⟨fun q => ?_, fun q => ?_⟩, fun _ => by rcases c1 with q | q <;> simp [q]⟩
    · exfalso
      rcases q with q | q <;> rcases c1 with p | p <;> (rw [p] at q; exact absurd q.1 (by decide))
    · exfalso
      rcases q.1 with q | q <;> rcases c1 with p | p <;> (rw [p] at q; exact absurd q (by decide))
  rw [if_neg c1]
  by_cases c3 : M l 1 = 3
  · rw [if_pos c3, e2 (ne_of_st c3 (by decide))]
    have d := due_iff (c := 300) ht ht2 hb hb2 (by decide) (by decide)
    refine ⟨⟨fun q => absurd q.1 c1, fun q => absurd q.1 c1⟩, ⟨fun q => ⟨Or.inl c3, ?_⟩, fun q => Or.inl ⟨c3, d.mpr q.2⟩⟩, fun _ => Or.inr (Or.inr (Or.inl c3))⟩
    rcases q with q | q
    · exact d.mp q.2
    · rw [c3] at q; exact absurd q.1 (by decide)
  rw [if_neg c3]
  by_cases c7 : M l 1 = 7
  · rw [if_pos c7, e2 (ne_of_st c7 (by decide))]
    have d := due_iff (c := 600) ht ht2 hb hb2 (by decide) (by decide)
    refine ⟨⟨fun q => absurd q.1 c1, fun q => absurd q.1 c1⟩, ⟨fun q => ⟨Or.inr c7, ?_⟩, fun q => Or.inr ⟨c7, d.mpr q.2⟩⟩, fun _ => Or.inr (Or.inr (Or.inr c7))⟩
    rcases q with q | q
    · rw [c7] at q; exact absurd q.1 (by decide)
    · exact d.mp q.2
  rw [if_neg c7]
  refine ⟨⟨fun q => absurd q.1 c1, fun q => absurd q.1 c1⟩, ⟨fun q => ?_, fun q => absurd q.1 (fun z => z.elim c3 c7)⟩, fun q => absurd hm q⟩
  rcases q with q | q
  · exact absurd q.1 c3
  · exact absurd q.1 c7
theorem watch_quiet {M N : dM} {l : Nat} (h : Rx 24 M N) (hK : LK M) (hl : l < 24) (hq : M 39 5 < f_due M l) : g_watch N l = N := by
  obtain ⟨a1, a2, -⟩ := act_iff h hK hl
  unfold g_watch
  rw [if_neg (fun q => (a1.mp q).2 hq), if_neg (fun q => (a2.mp q).2 hq)]
theorem watch_eq {M N : dM} {l : Nat} (h : Rx 24 M N) (hK : LK M) (hl : l < 24) (hq : ¬ M 39 5 < f_due M l) : Rx 24 (f_camps (f_runOut M l)) (g_watch N l) ∧ LK (f_camps (f_runOut M l)) ∧ Fr M (f_camps (f_runOut M l)) := by
  obtain ⟨a1, a2, a3⟩ := act_iff h hK hl
  obtain ⟨hS, hI, hs, ht2⟩ := hK
  obtain ⟨hL, hC⟩ := h.1 l hl (by omega)
  have hS2 := hS.runOut hl
  unfold g_watch
  by_cases c1 : M l 1 = 1 ∨ M l 1 = 2
  · rw [if_pos (a1.mpr ⟨c1, hq⟩)]
    have er : f_runOut M l = f_enter M l 9 (M 39 5) := by rw [f_runOut, if_pos c1]
    have st : ∀ k : Int32, k ≠ 1 → k ≠ 2 → ¬ M l 1 = k := fun k k1 k2 q => by
      rcases c1 with p | p
      · exact k1 (q.symm.trans p)
      · exact k2 (q.symm.trans p)
    have s : St (f_enter M l 9 (M 39 5)) := fun k hk k0 => by
      obtain ⟨b1, b2⟩ := enter_st (M := M) (c := l) (k := k) (s := 9) (n := M 39 5) (by decide)
      rw [b1]; exact hs k hk (b2 k0)
    rw [er, camps_id s]
    have n3 : N l 3 = -1 := by rw [← hL.2.1]; exact hC.1 (st 4 (by decide) (by decide)) (st 6 (by decide) (by decide)) (st 7 (by decide) (by decide)) (st 8 (by decide) (by decide))
    have n4 : N l 4 = -1 := by rw [← hL.2.2.1]; exact hC.2.1 (st 4 (by decide) (by decide)) (st 6 (by decide) (by decide))
    have kr := hL.kr (hC.2.2.2 (st 6 (by decide) (by decide)))
    rw [er] at hS2
    exact ⟨h.row hl EX.enter EX.bec (fun _ => LR_to hl kr n3 n4 h.2.2.2.2.1 (by decide)) (fun q => absurd q (by omega)),
      ⟨hS2, hI.enter hl (hI.nd hl (by omega) (st 3 (by decide) (by decide)) (st 6 (by decide) (by decide)) (st 7 (by decide) (by decide)) (st 8 (by decide) (by decide))) (by decide) (by decide) rfl, s, by rw [f_enter_r (by omega)]; exact ht2⟩, Fr.enter hl⟩
  · have c2 : M l 1 = 3 ∨ M l 1 = 7 := by
      rcases a3 hq with q | q | q | q
      · exact absurd (Or.inl q) c1
      · exact absurd (Or.inr q) c1
      · exact Or.inl q
      · exact Or.inr q
    rw [if_neg (fun q => c1 (a1.mp q).1), if_pos (a2.mpr ⟨c2, hq⟩)]
    have er : f_runOut M l = f_enter (f_leave M l) l 5 (f_leave M l 39 5) := by rw [f_runOut, if_neg c1]
    rw [er] at hS2 ⊢
    obtain ⟨b1, b2, b3⟩ := leave_eq h hI hS hl
    have r1 := b1.busy (t := f_leave M l 39 5) hl rfl
    have r2 := b2.enter (s := 5) (t := f_leave M l 39 5) hl b3 (by decide) (by decide) rfl
    obtain ⟨d1, d2⟩ := settle_eq 24 0 _ _ rfl r1 r2 hS2
    have h37 : f_leave M l 37 1 = M 37 1 := by
      unfold f_leave
      rw [if_neg (by rcases c2 with q | q <;> exact ne_of_st q (by decide))]
      by_cases c3 : M l 1 = 3
      · rw [if_pos c3]; exact (Fr.stop hl).2
      · rw [if_neg c3, if_pos (c2.resolve_left c3)]; exact up2_r (by omega)
    have f0 : Fr M (f_leave M l) := ⟨t_leave hS hl, h37⟩
    have f1 : Fr M (f_camps (f_enter (f_leave M l) l 5 (f_leave M l 39 5))) := (f0.trans (Fr.enter hl)).trans (Fr.camps hS2)
    exact ⟨d1, ⟨hS2.camps, d2, St.camps hS2, by rw [f1.1]; exact ht2⟩, f1⟩
theorem look_eq : ∀ (n l : Nat) (M N : dM), l + n = 24 → Rx 24 M N → LK M → Rx 24 (laL n l M) (waL n l N) ∧ LK (laL n l M) ∧ Fr M (laL n l M)
  | 0, _, _, _, _, h, hK => ⟨h, hK, Fr.ref⟩
  | n + 1, l, M, N, e, h, hK => by
    rw [laL, waL]
    by_cases hq : M 39 5 < f_due M l
    · rw [if_pos hq, watch_quiet h hK (by omega) hq]
      exact look_eq n (l + 1) M N (by omega) h hK
    · rw [if_neg hq]
      obtain ⟨a1, a2, a3⟩ := watch_eq h hK (by omega) hq
      obtain ⟨b1, b2, b3⟩ := look_eq n (l + 1) _ _ (by omega) a1 a2
      exact ⟨b1, b2, a3.trans b3⟩
theorem wa_quiet {M N : dM} (h : Rx 24 M N) (hK : LK M) (hq : ∀ l, l < 24 → M 39 5 < f_due M l) : ∀ (n l : Nat), l + n = 24 → waL n l N = N
  | 0, _, _ => rfl
  | n + 1, l, e => by
    rw [waL, watch_quiet h hK (by omega) (hq l (by omega))]
    exact wa_quiet h hK hq n (l + 1) (by omega)
/-! the clock alone -/
theorem up2_up2 (N : dM) (r j : Nat) (a b : Int32) : up2 (up2 N r j a) r j b = up2 N r j b := by
  funext x y
  unfold up2
  split <;> simp_all
theorem up2_self (N : dM) (r j : Nat) : up2 N r j (N r j) = N := by
  funext x y
  unfold up2
  split
  · next h => rw [h.1, h.2]
  · rfl
theorem Rx.clock {M N : dM} {v : Int32} (h : Rx 24 M N) : Rx 24 (up2 M 39 5 v) (up2 N 39 5 v) := by
  have er : ∀ (X : dM) r, r ≠ 39 → up2 X 39 5 v r = X r := fun X r hr => funext (fun j => up2_r hr)
  refine ⟨fun l hl hx => ?_, fun q => absurd q (by omega), fun r j a b c => ?_, fun q hq ho => ?_, ?_, ?_⟩
  · rw [er _ l (by omega), er _ l (by omega)]; exact h.1 l hl hx
  · rw [er _ r (by omega), er _ r (by omega)]; exact h.2.2.1 r j a b c
  · rw [er _ _ (by omega)] at ho
    rw [er _ _ (by omega), er _ _ (by omega)]; exact h.2.2.2.1 q hq ho
  · rw [up2_s, up2_s]
  · rw [up2_j (by decide), up2_j (by decide)]; exact h.2.2.2.2.2
theorem LK.clock {M : dM} {v : Int32} (h : LK M) (h1 : (M 39 5).toInt ≤ v.toInt) (h2 : v.toInt ≤ 1000000000) : LK (up2 M 39 5 v) := by
  have er : ∀ r, r ≠ 39 → up2 M 39 5 v r = M r := fun r hr => funext (fun j => up2_r hr)
  obtain ⟨hS, ⟨a1, a2, a3, a4, a5, a6, a7⟩, hs, ht⟩ := h
  refine ⟨hS.up (by decide), ⟨fun l hl hx h4 => ?_, fun l hl hx h6 => ?_, fun p hp l hl hh => ?_, fun l hl c hc hh => ?_, fun hx => absurd hx (by omega), by rw [up2_s]; omega, fun l hl => ?_⟩, fun k hk => by rw [er k (by omega)]; exact hs k hk, by rw [up2_s]; exact h2⟩
  · rw [er l (by omega)] at h4 ⊢
    obtain ⟨o, ho, b1, b2, b3⟩ := a1 l hl hx h4
    exact ⟨o, ho, b1, b2, by rw [er o (by omega)]; exact b3⟩
  · rw [er l (by omega)] at h6 ⊢
    obtain ⟨o, ho, b1, b2, b3⟩ := a2 l hl hx h6
    exact ⟨o, ho, b1, b2, by rw [er o (by omega)]; exact b3⟩
  · rw [er 36 (by omega)] at hh
    rw [er l (by omega)]; exact a3 p hp l hl hh
  · rw [er l (by omega)] at hh
    rw [er c (by omega)]; exact a4 l hl c hc hh
  · rw [up2_s, er l (by omega)]
    have := a7 l hl
    omega
theorem due_clock {M : dM} {v : Int32} {l : Nat} (hl : l < 24) : f_due (up2 M 39 5 v) l = f_due M l := by
  unfold f_due
  rw [show up2 M 39 5 v l = M l from funext (fun j => up2_r (by omega))]
theorem ed_le (M : dM) : ∀ (n l : Nat) (e : Int32), (edL M n l e).toInt ≤ e.toInt ∧ ∀ k, l ≤ k → k < l + n → (edL M n l e).toInt ≤ (f_due M k).toInt
  | 0, l, e => ⟨Int.le_refl _, fun k a b => absurd a (by omega)⟩
  | n + 1, l, e => by
    rw [edL]
    obtain ⟨h1, h2⟩ := ed_le M n (l + 1) (if f_due M l < e then f_due M l else e)
    have h3 : (if f_due M l < e then f_due M l else e).toInt ≤ e.toInt ∧ (if f_due M l < e then f_due M l else e).toInt ≤ (f_due M l).toInt := by
      split
      · next q => have := Int32.lt_iff_toInt_lt.mp q; omega
      · next q =>
        have q9 : ¬ (f_due M l).toInt < e.toInt := fun z => q (Int32.lt_iff_toInt_lt.mpr z)
        omega
    refine ⟨by omega, fun k a b => ?_⟩
    by_cases kl : k = l
    · subst kl; omega
    · exact h2 k (by omega) (by omega)
theorem ti_quiet {T : Nat} : ∀ (j k : Nat) (N : dM), N 39 5 = nI T → (∀ i, 1 ≤ i → i ≤ j → waL 24 0 (up2 N 39 5 (nI (T + i))) = up2 N 39 5 (nI (T + i))) → tiL (j + k) N = tiL k (up2 N 39 5 (nI (T + j)))
  | 0, k, N, e, _ => by rw [Nat.zero_add, Nat.add_zero, ← e, up2_self]
  | j + 1, k, N, e, h => by
    have e1 : N 39 5 + 1 = nI (T + 1) := by rw [e]; exact nI_1 T
    rw [show j + 1 + k = (j + k) + 1 by omega, tiL, e1, h 1 (by omega) (by omega)]
    have ih := ti_quiet (T := T + 1) j k (up2 N 39 5 (nI (T + 1))) (up2_s _ _ _ _) (fun i a b => by
      rw [up2_up2, show T + 1 + i = T + (i + 1) by omega]
      exact h (i + 1) (by omega) (by omega))
    rw [ih, up2_up2, show T + 1 + j = T + (j + 1) by omega]
theorem tick_run : ∀ (n k T : Nat) (M N : dM), k ≤ n → Rx 24 M N → LK M → M 39 5 = nI T → T + k ≤ 1000000000 →
    Rx 24 (tkL (nI (T + k)) n M) (tiL k N) ∧ LK (tkL (nI (T + k)) n M) ∧ tkL (nI (T + k)) n M 39 5 = nI (T + k) ∧ tkL (nI (T + k)) n M 37 1 = M 37 1
  | 0, k, T, M, N, hk, h, hK, e, hb => by
    have : k = 0 := by omega
    subst this
    exact ⟨h, hK, e, rfl⟩
  | n + 1, 0, T, M, N, hk, h, hK, e, hb => by
    have c : ¬ M 39 5 < nI (T + 0) := by rw [e]; exact fun q => Int32.lt_irrefl q
    rw [tkL, if_neg c]
    exact ⟨h, hK, e, rfl⟩
  | n + 1, k + 1, T, M, N, hk, h, hK, e, hb => by
    have tI : ∀ a, a ≤ 1000000000 → (nI a).toInt = a := fun a ha => nI_toInt (by omega)
    have c : M 39 5 < nI (T + (k + 1)) := by rw [e]; exact nI_lt (by omega) (by omega)
    have hT := tI T (by omega)
    have hT1 := tI (T + 1) (by omega)
    have hE := tI (T + (k + 1)) (by omega)
    obtain ⟨d, d1, d2, ed, dq⟩ : ∃ d, 1 ≤ d ∧ d ≤ k + 1 ∧ nxt M (nI (T + (k + 1))) = nI (T + d) ∧ ∀ i, 1 ≤ i → i < d → (T + i : Int) < (f_ed M).toInt := by
      have e1 : M 39 5 + 1 = nI (T + 1) := by rw [e]; exact nI_1 T
      unfold nxt
      rw [e1]
      by_cases q1 : nI (T + 1) < f_ed M
      · rw [if_pos q1]
        have q1' := Int32.lt_iff_toInt_lt.mp q1
        by_cases q2 : f_ed M < nI (T + (k + 1))
        · rw [if_pos q2]
          have q2' := Int32.lt_iff_toInt_lt.mp q2
          refine ⟨((f_ed M).toInt - T).toNat, by omega, by omega, ?_, fun i i1 i2 => by omega⟩
          apply Int32.toInt_inj.mp
          rw [tI _ (by omega)]
          omega
        · rw [if_neg q2]
          have q2' : ¬ (f_ed M).toInt < (nI (T + (k + 1))).toInt := fun z => q2 (Int32.lt_iff_toInt_lt.mpr z)
          exact ⟨k + 1, by omega, by omega, rfl, fun i i1 i2 => by omega⟩
      · rw [if_neg q1]
        by_cases q2 : nI (T + 1) < nI (T + (k + 1))
        · rw [if_pos q2]; exact ⟨1, by omega, by omega, rfl, fun i i1 i2 => by omega⟩
        · rw [if_neg q2]
          have q2' : ¬ (nI (T + 1)).toInt < (nI (T + (k + 1))).toInt := fun z => q2 (Int32.lt_iff_toInt_lt.mpr z)
          have : k = 0 := by omega
          subst this
          exact ⟨1, by omega, by omega, rfl, fun i i1 i2 => by omega⟩
    rw [tkL, if_pos c, ed]
    have eN : N 39 5 = nI T := by rw [← h.2.2.2.2.1]; exact e
    have hq : ∀ i, 1 ≤ i → i ≤ d - 1 → waL 24 0 (up2 N 39 5 (nI (T + i))) = up2 N 39 5 (nI (T + i)) := fun i i1 i2 => by
      refine wa_quiet (M := up2 M 39 5 (nI (T + i))) h.clock (hK.clock (by rw [e, hT, tI _ (by omega)]; omega) (by rw [tI _ (by omega)]; omega)) (fun l hl => ?_) 24 0 rfl
      rw [due_clock hl, up2_s]
      have := (ed_le M 24 0 2147483647).2 l (by omega) (by omega)
      have z := dq i i1 (by omega)
      unfold f_ed at z
      apply Int32.lt_iff_toInt_lt.mpr
      rw [tI _ (by omega)]
      omega
    have e2 : tiL (k + 1) N = tiL (k + 1 - d) (waL 24 0 (up2 N 39 5 (nI (T + d)))) := by
      rw [show k + 1 = (d - 1) + ((k + 1 - d) + 1) by omega, ti_quiet (d - 1) ((k + 1 - d) + 1) N eN hq, tiL, up2_s, up2_up2, nI_1, show T + (d - 1) + 1 = T + d by omega, show d - 1 + (k + 1 - d + 1) - d = k + 1 - d by omega]
    rw [e2]
    obtain ⟨a1, a2, a3⟩ := look_eq 24 0 (up2 M 39 5 (nI (T + d))) (up2 N 39 5 (nI (T + d))) rfl h.clock (hK.clock (by rw [e, hT, tI _ (by omega)]; omega) (by rw [tI _ (by omega)]; omega))
    have a4 : f_look (up2 M 39 5 (nI (T + d))) 39 5 = nI (T + d) := a3.1.trans (up2_s _ _ _ _)
    have ih := tick_run n (k + 1 - d) (T + d) _ _ (by omega) a1 a2 a4 (by omega)
    rw [show T + d + (k + 1 - d) = T + (k + 1) by omega] at ih
    obtain ⟨b1, b2, b3, b4⟩ := ih
    exact ⟨b1, b2, b3, b4.trans (a3.2.trans (up2_r (by omega)))⟩
def g_tick (N : dM) (x : Int32) : dM := tiL x.toNatClampNeg N
theorem tick_eq {n : Nat} {M N : dM} {x : Int32} (hn : n < 100000) (h : Ok n M N) (hx : okT x) : Ok (n + 1) (f_tick M x) (g_tick N x) ∧ M 39 5 + x < 2147483647 := by
  obtain ⟨hR, hV⟩ := h
  obtain ⟨hS, hI, hs, a4, a5, a6⟩ := id hV
  obtain ⟨k, k1, k2, rfl⟩ := okT_of hx
  have t0 := hI.2.2.2.2.2.1
  have eT : M 39 5 = nI (M 39 5).toInt.toNat := by
    apply Int32.toInt_inj.mp
    rw [nI_toInt (by omega)]
    omega
  generalize hT : (M 39 5).toInt.toNat = T at *
  unfold f_tick g_tick
  rw [nI_clamp (by omega), eT, nI_add]
  obtain ⟨b1, b2, b3, b4⟩ := tick_run k k T M N (by omega) hR ⟨hS, hI, hs, by omega⟩ eT (by omega)
  have ew : wr (tkL (nI (T + k)) k M) = wr M := by rw [wr, wr, b4]
  refine ⟨⟨b1, b2.1, b2.2.1, b2.2.2.1, ?_, by rw [b4, ew]; exact a5, by rw [ew]; omega⟩, ?_⟩
  · rw [b3, nI_toInt (by omega)]
    push_cast
    omega
  · apply Int32.lt_iff_toInt_lt.mpr
    rw [nI_toInt (by omega), show (2147483647 : Int32).toInt = 2147483647 by decide]
    omega
