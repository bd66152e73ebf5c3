theorem Iv.nd1 {q : Nat} {M : dM} (h : Iv 24 M) (hq : q < 24) (h3 : ¬ M q 1 = 3) : ∀ l, l < 24 → l ≠ q → M l 1 = 4 → ¬ M l 3 = nI q := fun l hl _ e4 e => by
  obtain ⟨o, ho, -, eo, h9⟩ := h.1 l hl (by omega) e4
  have : o = q := nI_eq24 ho hq (eo.symm.trans e)
  subst this
  exact h3 (h9.resolve_right (by omega))
theorem Iv.nd2 {q : Nat} {M : dM} (h : Iv 24 M) (hq : q < 24) (h6 : ¬ M q 1 = 6) : ∀ l, l < 24 → l ≠ q → M l 1 = 6 → ¬ M l 3 = nI q := fun l hl _ e6 e => by
  obtain ⟨o, ho, -, -, eo, h9, -⟩ := h.2.1 l hl (by omega) e6
  have : o = q := nI_eq24 ho hq (eo.symm.trans e)
  subst this
  exact h6 h9
theorem Iv.nd3 {q : Nat} {M : dM} (h : Iv 24 M) (hq : q < 24) (h7 : ¬ M q 1 = 7) : ∀ p, p < 4 → ¬ M 36 p = nI q := fun p hp e => h7 (h.2.2.1 p hp q hq e).2.1
theorem Iv.nd4 {q : Nat} {M : dM} (h : Iv 24 M) (hq : q < 24) (h8 : ¬ M q 1 = 8) : ∀ l, l < 24 → ¬ M l 10 = nI q := fun l hl e => h8 (h.2.2.2.1 l hl q hq e).2.1
theorem Iv.now {x : Nat} {M : dM} (h : Iv x M) : -1 ≤ (M 39 5).toInt ∧ (M 39 5).toInt ≤ (M 39 5).toInt := ⟨by have := h.2.2.2.2.2.1; omega, Int.le_refl _⟩
theorem Iv.enter {x q : Nat} {M : dM} {s t : Int32} (h : Iv x M) (hq : q < 24) (nd : ND q M) (h4 : ¬ s = 4) (h6 : ¬ s = 6) (ht : t = M 39 5) : Iv x (f_enter M q s t) := by
  subst ht
  refine h.row hq nd (fun r j _ hr => f_enter_r hr) (by rw [f_enter_s]; rfl) (fun _ e => ?_) ?_ (fun _ => ?_) ?_
  · rw [f_enter_s] at e; exact absurd e h4
  · rw [f_enter_s]; exact h6
  · rw [f_enter_s]; exact h4
  · rw [f_enter_s]; exact h.now
theorem Iv.close3 {c : Nat} {M : dM} {t : Int32} (h : Iv c M) (hc : c < 24) (ht : t = M 39 5) : Iv 24 (f_enter M c 3 t) := by
  subst ht
  refine h.close hc (fun r j _ hr => f_enter_r hr) (by rw [f_enter_s]; rfl) (Or.inl (by rw [f_enter_s]; rfl)) ?_ ?_ ?_
  · rw [f_enter_s]; exact (by decide : ¬ (3 : Int32) = 4)
  · rw [f_enter_s]; exact (by decide : ¬ (3 : Int32) = 6)
  · rw [f_enter_s]; exact h.now
theorem Iv.block {c : Nat} {M : dM} (h : Iv 24 M) (hc : c < 24) (nd : ND c M) : Iv 24 (f_block M c) := by
  unfold f_block
  exact (h.enter (s := 5) hc nd (by decide) (by decide) rfl).same (fun r j hr => by
    by_cases e : r = 39
    · subst e; exact up2_j (by omega)
    · exact up2_r e)
theorem f_take_none {M : dM} {a b : Nat} (h : f_free M a b = -1) : f_take M a b = M := by rw [f_take, if_pos h]
theorem f_ring_none {M : dM} {a b : Nat} (h : f_free M a b = -1) : f_ring M a b = M := by rw [f_ring, if_pos h, f_take_none h]
theorem f_ring_s {M : dM} {c m : Nat} (hc : c < 24) (hm : m < 24) (h : ¬ f_free M c m = -1) (j : Nat) : f_ring M c m m j = if j = 4 then f_free M c m else if j = 3 then nI c else if j = 1 then 4 else if j = 2 then M 39 5 else if j = 5 then -1 else if j = 7 then 0 else M m j := by
  rw [f_ring, if_neg h]
  simp only [up2, true_and, f_enter_s]
  rw [take_row hc hm (by omega), take_row hc hm (by omega)]
  by_cases h4 : j = 4
  · simp [h4]
  by_cases h3 : j = 3
  · simp [h3]
  simp [h4, h3]
theorem Iv.take {x a b : Nat} {M : dM} (h : Iv x M) (ha : a < 24) (hb : b < 24) : Iv x (f_take M a b) := h.same (fun r j hr => f_take_r (by omega) (by omega))
theorem Iv.mark {x a b t : Nat} {M : dM} {w : Int32} (h : Iv x M) (ha : a < 24) (hb : b < 24) : Iv x (f_mark M a b t w) := h.same (fun r j hr => f_mark_r (by omega) (by omega))
theorem Iv.ring {c m : Nat} {M : dM} (h : Iv c M) (hc : c < 24) (hm : m < 24) (hmc : m ≠ c) (h0 : M m 1 = 0) : Iv c (f_ring M c m) := by
  by_cases hf : f_free M c m = -1
  · rw [f_ring_none hf]; exact h
  have nd := h.nd hm hmc (ne_of_st h0 (by decide)) (ne_of_st h0 (by decide)) (ne_of_st h0 (by decide)) (ne_of_st h0 (by decide))
  refine h.row hm nd (fun r j hr hn => f_ring_r (by omega) (by omega) hn) (by rw [f_ring_s hc hm hf]; rfl) (fun _ _ => ⟨c, hc, Ne.symm hmc, ?_, Or.inr rfl⟩) ?_ (fun q => absurd q hmc) ?_
  · rw [f_ring_s hc hm hf]; rfl
  · rw [f_ring_s hc hm hf]; exact (by decide : ¬ (4 : Int32) = 6)
  · rw [f_ring_s hc hm hf]; exact h.now
/-! ringing, on both sides -/
theorem Rx.rk {x : Nat} {M N : dM} {v : Int32} (h : Rx x M N) : Rx x M (up2 N 39 8 v) := by
  have er : ∀ l, l ≠ 39 → up2 N 39 8 v l = N l := fun l hl => funext (fun j => up2_r hl)
  have e5 : ∀ j, j ≠ 8 → up2 N 39 8 v 39 j = N 39 j := fun j hj => up2_j hj
  obtain ⟨h1, h2, a1, a2, a3, a4⟩ := h
  refine ⟨fun l a9 b9 => ?_, fun a9 => ?_, fun r j a b c => ?_, fun g hg ho => ?_, ?_, ?_⟩
  · rw [er l (by omega)]; exact h1 l a9 b9
  · rw [e5 5 (by decide), er x (by omega)]; exact h2 a9
  · rw [er r (by omega)]; exact a1 r j a b c
  · rw [er _ (by omega)]; exact a2 g hg ho
  · rw [e5 5 (by decide)]; exact a3
  · rw [e5 6 (by decide)]; exact a4
theorem EX.rg1 {N : dM} {c l : Nat} {s : Int32} : EX l N (g_rg1 N c l s) := (EX.bec.trans EX.up).trans EX.up
theorem EX.rg2 {N : dM} {c l : Nat} {s : Int32} : EX l N (g_rg2 N c l s) := EX.rg1.trans EX.up
theorem rg2_s {N : dM} {c l : Nat} {s : Int32} (hl : l < 24) (j : Nat) (hj : j ≠ 12) : g_rg2 N c l s l j = if j = 4 then s else if j = 3 then nI c else if j = 5 then -1 else if j = 2 then N 39 5 else if j = 1 then 4 else N l j := by
  unfold g_rg2 g_rg1
  simp only [up2, true_and, becS_s hl (by decide : ¬ (4 : Int32) = 0), hj, if_false]
theorem Rx.ring {c m : Nat} {M N : dM} (h : Rx c M N) (hc : c < 24) (hm : m < 24) (hmc : m ≠ c) (h0 : M m 1 = 0) (hf : ¬ f_free M c m = -1) : Rx c (f_ring M c m) (g_ring (f_take N c m) c m (f_free N c m)) := by
  have hT := h.take hc hm
  have eR : f_ring M c m = up2 (up2 (f_enter (f_take M c m) m 4 (f_take M c m 39 5)) m 3 (nI c)) m 4 (f_free M c m) := by rw [f_ring, if_neg hf]
  have e1 : EX m (f_take M c m) (f_ring M c m) := by rw [eR]; exact (EX.enter.trans EX.up).trans EX.up
  have hL := (hT.1 m hm hmc)
  have hN7 : f_take N c m m 7 = 0 := by
    rw [← hL.1.2.2.2.2.2.1]
    exact hL.2.2.2.2 (by rw [take_row hc hm (by omega)]; exact ne_of_st h0 (by decide))
  have hR2 : Rx c (f_ring M c m) (g_rg2 (f_take N c m) c m (f_free N c m)) := by
    refine hT.row hm e1 EX.rg2 (fun _ => ?_) (fun q => absurd q hmc)
    obtain ⟨⟨b1, b3, b4, b5, b6, b7, b8, b9, b10, b11⟩, -⟩ := hL
    have et : M 39 5 = f_take N c m 39 5 := by
      have := hT.2.2.2.2.1
      rw [take_row hc hm (by omega)] at this
      exact this
    rw [take_row (l := m) hc hm (by omega)] at b6 b7 b8 b9 b10
    unfold LR CL
    simp only [f_ring_s hc hm hf, rg2_s hm 1 (by decide), rg2_s hm 2 (by decide), rg2_s hm 3 (by decide), rg2_s hm 4 (by decide), rg2_s hm 5 (by decide), rg2_s hm 6 (by decide), rg2_s hm 7 (by decide), rg2_s hm 8 (by decide), rg2_s hm 9 (by decide), rg2_s hm 10 (by decide), rg2_s hm 11 (by decide), rg2_s hm 13 (by decide)]
    simp [b6, b8, b9, b10, hN7, et, h.2.2.free hc hm]
  have hR3 : Rx c (f_ring M c m) (g_rg3 (f_take N c m) c m (f_free N c m)) := hR2.rk
  unfold g_ring
  split
  · exact hR3
  · next h3 =>
    refine hR3.row hc EX.rfl EX.bec (fun q => absurd rfl q) (fun _ => ?_)
    obtain ⟨⟨w1, w2, w3, w4, w5⟩, w6, w7, w8, w9, w10, w11, w12, w13⟩ := hR3.2.1 hc
    unfold CW KR
    simp only [becS_s hc (by decide : ¬ (3 : Int32) = 0)]
    simp [w1, w2, w3, w4, w5, w6, w7, w8, w9, w10]
/-! one line calls another -/
def g_callLine (N : dM) (c l : Nat) : dM :=
  if l = c ∨ ¬ N l 9 = 0 then g_busy N c
  else if ¬ N l 1 = 0 then up2 (g_busy N c) c 5 (nI l)
  else if f_free N c l < 0 then g_busy (up2 (f_take N c l) 39 6 (f_take N c l 39 6 + 1)) c
  else g_ring (f_take N c l) c l (f_free N c l)
theorem Rx.busy {c : Nat} {M N : dM} {t : Int32} (h : Rx c M N) (hc : c < 24) (ht : t = M 39 5) : Rx 24 (f_enter M c 5 t) (g_busy N c) :=
  h.close hc EX.enter EX.busy (LR_busy hc (h.2.1 hc).1 (by rw [ht]; exact h.2.2.2.2.1))
theorem busy_blk {N : dM} {c : Nat} {w : Int32} (hc : c < 24) : g_busy (up2 N 39 6 w) c = up2 (g_busy N c) 39 6 w := by
  funext r j
  by_cases e : r = c
  · subst e
    rw [busy_s hc, up2_r (show r ≠ 39 by omega), up2_r (show r ≠ 39 by omega), up2_j (show (5 : Nat) ≠ 6 by decide), busy_s hc]
  · rw [EX.busy r j e]
    by_cases e9 : r = 39 ∧ j = 6
    · simp [up2, e9]
    · rw [show up2 N 39 6 w r j = N r j by simp only [up2, if_neg e9], show up2 (g_busy N c) 39 6 w r j = g_busy N c r j by simp only [up2, if_neg e9], EX.busy r j e]
theorem Rx.blocked {c : Nat} {M N : dM} (h : Rx c M N) (hc : c < 24) : Rx 24 (f_block M c) (g_busy (up2 N 39 6 (N 39 6 + 1)) c) := by
  rw [busy_blk hc]
  unfold f_block
  refine (h.busy hc rfl).blk ?_
  rw [f_enter_r (show 39 ≠ c by omega), h.2.2.2.2.2]
theorem LR_late {M N : dM} {c : Nat} {v : Int32} (h : LR (M c) (N c) ∧ CL (M c)) (h5 : M c 1 = 5) : LR (up2 M c 5 v c) (up2 N c 5 v c) ∧ CL (up2 M c 5 v c) := by
  obtain ⟨⟨b1, b3, b4, b5, b6, b7, b8, b9, b10, b11, b12, b13⟩, d1, d2, d3, d4⟩ := h
  refine ⟨⟨?_, ?_, ?_, ?_, ?_, ?_, ?_, ?_, ?_, ?_, ?_, ?_⟩, ?_, ?_, ?_, ?_⟩ <;> simp only [up2, true_and]
  · exact b1
  · exact b3
  · exact b4
  · rfl
  · exact b6
  · exact b7
  · exact b8
  · exact b9
  · exact b10
  · exact b11
  · exact b12
  · exact b13
  · exact d1
  · exact d2
  · intro q; exact absurd h5 q
  · exact d4
theorem lt0_m1 {x : Int32} (h : x = -1 ∨ ∃ t, t < 1000 ∧ x = nI t) : x < 0 ↔ x = -1 := by
  rcases h with rfl | ⟨t, ht, rfl⟩
  · decide
  · exact ⟨fun q => absurd q (nI_pos (by omega)), fun q => absurd q (nI_m1 t (by omega))⟩
theorem free_lt0 (M : dM) (a b : Nat) : f_free M a b < 0 ↔ f_free M a b = -1 := by
  apply lt0_m1
  rcases f_free_cases M a b with h | ⟨t, ht, h⟩
  · exact Or.inl h
  · exact Or.inr ⟨t, by omega, h⟩
theorem callLine_eq {c l : Nat} {M N : dM} (h : Rx c M N) (hI : Iv 24 M) (nd : ND c M) (hc : c < 24) (hl : l < 24) : Rx 24 (f_callLine M c l) (g_callLine N c l) ∧ Iv 24 (f_callLine M c l) := by
  have hw := h.2.1 hc
  unfold f_callLine g_callLine
  by_cases e : l = c
  · rw [if_pos (Or.inl e), if_pos (Or.inl e)]
    exact ⟨h.busy hc rfl, hI.enter hc nd (by decide) (by decide) rfl⟩
  obtain ⟨hL, hC⟩ := h.1 l hl e
  have e9 : M l 9 = N l 9 := hL.2.2.2.2.2.2.2.1
  have e1 : M l 1 = N l 1 := hL.1
  rw [← e9, ← e1]
  by_cases q9 : M l 9 = 0
  · have c1 : ¬ (l = c ∨ ¬ M l 9 = 0) := fun q => q.elim e (fun p => p q9)
    rw [if_neg c1, if_neg c1]
    by_cases q1 : M l 1 = 0
    · have c2 : ¬ ¬ M l 1 = 0 := fun q => q q1
      rw [if_neg c2, if_neg c2, h.2.2.free hc hl]
      by_cases hf : f_free M c l = -1
      · rw [if_pos hf, if_pos ((free_lt0 M c l).mpr hf), f_ring_none hf, f_take_none (by rw [h.2.2.free hc hl]; exact hf)]
        exact ⟨h.blocked hc, hI.block hc nd⟩
      · rw [if_neg hf, if_neg (fun q => hf ((free_lt0 M c l).mp q))]
        have hr := h.ring hc hl e q1 hf
        have hi := (hI.ex0 nd hw.2.2.2.2.1 hw.2.2.2.2.2.1).ring hc hl e q1
        rw [h.2.2.free hc hl] at hr
        refine ⟨?_, hi.close3 hc rfl⟩
        have hw2 := hr.2.1 hc
        have h3 : g_ring (f_take N c l) c l (f_free M c l) c 1 = 3 := by
          unfold g_ring
          split
          · assumption
          · rw [becS_s hc (by decide)]; rfl
        refine hr.close hc EX.enter EX.rfl ?_
        obtain ⟨⟨w1, w2, w3, w4, w5⟩, w6, w7, w8, w9, w10, w11, w12, w13⟩ := hw2
        obtain ⟨w14, w15⟩ := w13 h3
        have et : f_ring M c l 39 5 = g_ring (f_take N c l) c l (f_free M c l) 39 5 := hr.2.2.2.2.1
        unfold LR CL
        simp only [f_enter_s]
        simp [w1, w2, w3, w4, w5, w6, w7, w14, w15, h3, et]
    · rw [if_pos q1, if_pos q1]
      have hb := h.busy hc (t := M 39 5) rfl
      refine ⟨hb.row hc EX.up EX.up (fun _ => LR_late (hb.1 c hc (by omega)) (by rw [f_enter_s]; rfl)) (fun q => absurd q (by omega)), ?_⟩
      have hi := hI.enter hc nd (s := 5) (by decide) (by decide) (t := M 39 5) rfl
      refine hI.row hc nd (fun r j _ hn => by rw [up2_r hn, f_enter_r hn]) ?_ (fun _ q => ?_) ?_ (fun q => absurd q (by omega)) ?_
      · rw [up2_j (by decide), f_enter_s]; rfl
      · rw [up2_j (by decide), f_enter_s] at q; exact absurd (show (5 : Int32) = 4 from q) (by decide)
      · rw [up2_j (by decide), f_enter_s]; exact (by decide : ¬ (5 : Int32) = 6)
      · rw [up2_j (by decide), f_enter_s]; exact hI.now
  · have c1 : l = c ∨ ¬ M l 9 = 0 := Or.inr q9
    rw [if_pos c1, if_pos c1]
    exact ⟨h.busy hc rfl, hI.enter hc nd (by decide) (by decide) rfl⟩
/-! settling: who waits is put through -/
theorem Rx.ex1 {c : Nat} {M N N' : dM} (h : Rx 24 M N) (hc : c < 24) (e2 : EX c N N') (hw : CW (N 39 5) (M c) (N' c)) : Rx c M N' := by
  obtain ⟨h1, h2, h3⟩ := h
  refine ⟨fun l a b => ?_, fun _ => by rw [e2 39 5 (by omega)]; exact hw, h3.ex hc EX.rfl e2⟩
  rw [row_ex e2 b]; exact h1 l a (by omega)
theorem LR_camp {M N : dM} {c : Nat} {v : Int32} (h : LR (M c) (N c) ∧ CL (M c)) : LR (up2 M c 10 v c) (up2 N c 10 v c) ∧ CL (up2 M c 10 v c) := by
  obtain ⟨⟨b1, b3, b4, b5, b6, b7, b8, b9, b10, b11, b12, b13⟩, d1, d2, d3, d4⟩ := h
  refine ⟨⟨?_, ?_, ?_, ?_, ?_, ?_, ?_, ?_, ?_, ?_, ?_, ?_⟩, ?_, ?_, ?_, ?_⟩ <;> simp only [up2, true_and]
  · exact b1
  · exact b3
  · exact b4
  · exact b5
  · exact b6
  · exact b7
  · exact b8
  · exact b9
  · rfl
  · exact b11
  · exact b12
  · exact b13
  · exact d1
  · exact d2
  · exact d3
  · exact d4
theorem Rx.camp {x q : Nat} {M N : dM} {v : Int32} (h : Rx 24 M N) (hq : q < 24) : Rx 24 (up2 M q 10 v) (up2 N q 10 v) :=
  h.row hq EX.up EX.up (fun _ => LR_camp (h.1 q hq (by omega))) (fun e => absurd e (by omega))
theorem Iv.camp0 {l : Nat} {M : dM} (h : Iv 24 M) (hl : l < 24) : Iv 24 (up2 M l 10 (-1)) := by
  have e : ∀ r j, j ≠ 10 → up2 M l 10 (-1) r j = M r j := fun r j hj => up2_j hj
  have e36 : ∀ p, up2 M l 10 (-1) 36 p = M 36 p := fun p => up2_r (by omega)
  obtain ⟨a1, a2, a3, a4, a5, a6, a7⟩ := h
  refine ⟨fun q hq hx h4 => ?_, fun q hq hx h6 => ?_, fun p hp q hq h => ?_, fun q hq c hc h => ?_, fun hx => absurd hx (by omega), by rw [e 39 5 (by decide)]; exact a6, fun q hq => by rw [e q 2 (by decide), e 39 5 (by decide)]; exact a7 q hq⟩
  · rw [e q 1 (by decide)] at h4
    obtain ⟨o, ho, b1, b2, b3⟩ := a1 q hq hx h4
    exact ⟨o, ho, b1, by rw [e q 3 (by decide)]; exact b2, by rw [e o 1 (by decide)]; exact b3⟩
  · rw [e q 1 (by decide)] at h6
    obtain ⟨o, ho, b0, b1, b2, b3, b4, b5⟩ := a2 q hq hx h6
    exact ⟨o, ho, b0, b1, by rw [e q 3 (by decide)]; exact b2, by rw [e o 1 (by decide)]; exact b3, by rw [e o 3 (by decide)]; exact b4, by rw [e q 7 (by decide), e o 7 (by decide)]; exact b5⟩
  · rw [e36] at h
    rw [e q 1 (by decide), e q 3 (by decide)]; exact a3 p hp q hq h
  · by_cases ql : q = l
    · subst ql
      rw [up2_s] at h
      exact absurd h.symm (nI_m1 c (by omega))
    · rw [up2_r ql] at h
      rw [e c 1 (by decide), e c 3 (by decide)]; exact a4 q hq c hc h
def seL : Nat → Nat → dM → dM
  | 0, _, N => N
  | n + 1, l, N => if N l 1 = 0 ∧ ¬ N l 10 < 0 then seL n (l + 1) (g_callLine (up2 (up2 N l 10 (-1)) (N l 10).toNatClampNeg 3 (-1)) (N l 10).toNatClampNeg l) else seL n (l + 1) N
def g_settle (N : dM) : dM := seL 24 0 N
/-- what stands between a camped line and its call -/
theorem camp_call {c l : Nat} {M N : dM} (h : Rx 24 M N) (hI : Iv 24 M) (hl : l < 24) (hc : c < 24) (e10 : M l 10 = nI c) (h0 : M l 1 = 0) : Rx c (up2 M l 10 (-1)) (up2 (up2 N l 10 (-1)) c 3 (-1)) ∧ Iv 24 (up2 M l 10 (-1)) ∧ ND c (up2 M l 10 (-1)) := by
  obtain ⟨-, h8, h3⟩ := hI.2.2.2.1 l hl c hc e10
  have hcl : c ≠ l := fun q => by rw [q, h0] at h8; exact absurd h8 (by decide)
  have hR := h.camp (x := 24) (v := -1) hl
  have hI2 := hI.camp0 hl
  have e1 : up2 M l 10 (-1) c 1 = 8 := by rw [up2_r hcl]; exact h8
  refine ⟨hR.ex1 hc EX.up ?_, hI2, hI2.nd1 hc (ne_of_st e1 (by decide)), hI2.nd2 hc (ne_of_st e1 (by decide)), hI2.nd3 hc (ne_of_st e1 (by decide)), fun q hq e => ?_⟩
  · obtain ⟨⟨b1, b3, b4, b5, b6, b7, b8, b9, b10, b11, b12, b13⟩, d1, d2, d3, d4⟩ := hR.1 c hc (by omega)
    have d2 := d2 (ne_of_st e1 (by decide)) (ne_of_st e1 (by decide))
    have d4 := d4 (ne_of_st e1 (by decide))
    rw [e1] at b1
    rw [b4] at d2
    rw [b7] at d4
    unfold CW KR
    rw [e1]
    refine ⟨⟨?_, ?_, ?_, ?_, ?_⟩, ?_, ?_, by decide, by decide, by decide, ?_, ?_, ?_⟩
    · rw [up2_j (M := up2 N l 10 (-1)) (by decide)]; exact b6
    · rw [up2_j (M := up2 N l 10 (-1)) (by decide)]; exact b8
    · rw [up2_j (M := up2 N l 10 (-1)) (by decide)]; exact b9
    · rw [up2_j (M := up2 N l 10 (-1)) (j := 3) (by decide)]; exact b10
    · rw [up2_j (M := up2 N l 10 (-1)) (by decide)]; exact d4
    · exact up2_s _ _ _ _
    · rw [up2_j (M := up2 N l 10 (-1)) (by decide)]; exact d2
    · rw [up2_j (M := up2 N l 10 (-1)) (by decide), ← b1]; decide
    · rw [up2_j (M := up2 N l 10 (-1)) (by decide), ← b1]; decide
    · rw [up2_j (M := up2 N l 10 (-1)) (by decide), ← b1]; intro q; exact absurd q (by decide)
  · by_cases ql : q = l
    · subst ql
      rw [up2_s] at e
      exact absurd e.symm (nI_m1 c (by omega))
    · rw [up2_r ql] at e
      exact ql (nI_eq24 hq hl ((hI.2.2.2.1 q hq c hc e).2.2.symm.trans h3))
theorem settle_eq : ∀ (n l : Nat) (M N : dM), l + n = 24 → Rx 24 M N → Iv 24 M → Sf M → Rx 24 (cfL n l M) (seL n l N) ∧ Iv 24 (cfL n l M)
  | 0, _, _, _, _, h, hI, _ => ⟨h, hI⟩
  | n + 1, l, M, N, e, h, hI, hS => by
    have hl : l < 24 := by omega
    obtain ⟨hL, -⟩ := h.1 l hl (by omega)
    have e1 : M l 1 = N l 1 := hL.1
    have e10 : M l 10 = N l 10 := hL.2.2.2.2.2.2.2.2.1
    rw [cfL, seL, ← e1, ← e10]
    rcases (hS.1 l hl).2.2.2.1 with q | ⟨c, hc, q⟩
    · rw [if_neg (fun p => p.1 q), if_neg (fun p => p.2 (by rw [q]; decide))]
      exact settle_eq n (l + 1) M N (by omega) h hI hS
    · by_cases h0 : M l 1 = 0
      · rw [if_pos ⟨by rw [q]; exact nI_m1 c (by omega), h0⟩, if_pos ⟨h0, by rw [q]; exact nI_pos (by omega)⟩, q, nI_clamp (by omega)]
        obtain ⟨b1, b2, b3⟩ := camp_call h hI hl hc q h0
        obtain ⟨b4, b5⟩ := callLine_eq b1 b2 b3 hc hl
        exact settle_eq n (l + 1) _ _ (by omega) b4 b5 ((hS.camp0 hl (Or.inl rfl)).callLine hc hl)
      · rw [if_neg (fun p => h0 p.2), if_neg (fun p => h0 p.1)]
        exact settle_eq n (l + 1) M N (by omega) h hI hS
