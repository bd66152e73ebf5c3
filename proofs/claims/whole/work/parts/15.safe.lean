/-! WHAT KEEPS THE DESK's PLACES IN RANGE: a row at a time -/
def lnOK (r : Nat → Int32) : Prop := (r 1 = 4 ∨ r 1 = 6 → ∃ o t, o < 24 ∧ t < 8 ∧ r 3 = nI o ∧ r 4 = nI t) ∧ (r 1 = 7 → ∃ p, p < 4 ∧ r 3 = nI p) ∧ (r 1 = 8 → ∃ o, o < 24 ∧ r 3 = nI o) ∧ (r 10 = -1 ∨ ∃ c, c < 24 ∧ r 10 = nI c) ∧ (r 5 = -1 ∨ ∃ c, c < 24 ∧ r 5 = nI c)
def mb (M : dM) (g i : Nat) : Nat := (M (32 + g) i).toNatClampNeg
def grN (M : dM) (g : Nat) : Nat := (M (28 + g) 1).toNatClampNeg
def grS (M : dM) (g : Nat) : Nat := (M (28 + g) 3 + 1).toNatClampNeg
def grOK (M : dM) (g : Nat) : Prop := M (28 + g) 1 = nI (grN M g) ∧ grN M g ≤ 6 ∧ (∀ i, i < grN M g → M (32 + g) i = nI (mb M g i) ∧ mb M g i < 24) ∧ M (28 + g) 3 + 1 = nI (grS M g) ∧ grS M g ≤ 6
def Sf (M : dM) : Prop := (∀ l, l < 24 → lnOK (M l)) ∧ (∀ p, p < 4 → M 36 p = -1 ∨ ∃ l, l < 24 ∧ M 36 p = nI l) ∧ ∀ g, g < 4 → grOK M g
theorem lnOK.to {r r' : Nat → Int32} (h : lnOK r) (e : ∀ j, r' j = r j) : lnOK r' := by
  have : r' = r := funext e
  rw [this]; exact h
theorem grOK.to {M M' : dM} {g : Nat} (h : grOK M g) (e1 : ∀ j, M' (28 + g) j = M (28 + g) j) (e2 : ∀ j, M' (32 + g) j = M (32 + g) j) : grOK M' g := by
  unfold grOK grN grS mb at *
  simp only [e1, e2]
  exact h
theorem Sf.lines {M M' : dM} (h : Sf M) (e : ∀ r j, 28 ≤ r → r ≤ 36 → M' r j = M r j) (hl : ∀ l, l < 24 → lnOK (M' l)) : Sf M' :=
  ⟨hl, fun p hp => by rw [e 36 p (by decide) (by decide)]; exact h.2.1 p hp, fun g hg => (h.2.2 g hg).to (fun j => e _ j (by omega) (by omega)) (fun j => e _ j (by omega) (by omega))⟩
theorem f_enter_r {M : dM} {l r j : Nat} {s n : Int32} (h : r ≠ l) : f_enter M l s n r j = M r j := by simp [f_enter, up2, h]
theorem f_enter_s (M : dM) (l : Nat) (s n : Int32) (j : Nat) : f_enter M l s n l j = if j = 1 then s else if j = 2 then n else if j = 3 ∨ j = 4 ∨ j = 5 then -1 else if j = 7 then 0 else M l j := by
  simp only [f_enter, up2, true_and]
  by_cases h7 : j = 7
  · subst h7; simp
  by_cases h5 : j = 5
  · subst h5; simp
  by_cases h4 : j = 4
  · subst h4; simp
  by_cases h3 : j = 3
  · subst h3; simp
  by_cases h2 : j = 2
  · subst h2; simp
  by_cases h1 : j = 1
  · subst h1; simp
  simp [h1, h2, h3, h4, h5, h7]
theorem lnOK_enter {M : dM} {l : Nat} {s n : Int32} (h : lnOK (M l)) (h4 : ¬ s = 4) (h6 : ¬ s = 6) (h7 : ¬ s = 7) (h8 : ¬ s = 8) : lnOK (f_enter M l s n l) := by
  unfold lnOK
  simp only [f_enter_s]
  simp [h4, h6, h7, h8]
  exact h.2.2.2.1
theorem Sf.enter {M : dM} {l : Nat} {s n : Int32} (h : Sf M) (hl : l < 24) (h4 : ¬ s = 4) (h6 : ¬ s = 6) (h7 : ¬ s = 7) (h8 : ¬ s = 8) : Sf (f_enter M l s n) := by
  refine h.lines (fun r j h1 h2 => f_enter_r (by omega)) (fun q hq => ?_)
  by_cases e : q = l
  · subst e; exact lnOK_enter (h.1 q hq) h4 h6 h7 h8
  · exact (h.1 q hq).to (fun j => f_enter_r e)
theorem f_mark_r {M : dM} {a b t r j : Nat} {w : Int32} (ha : r ≠ 24 + a / 6) (hb : r ≠ 24 + b / 6) : f_mark M a b t w r j = M r j := by simp [f_mark, up2, ha, hb]
theorem Sf.mark {M : dM} {a b t : Nat} {w : Int32} (h : Sf M) (ha : a < 24) (hb : b < 24) : Sf (f_mark M a b t w) :=
  h.lines (fun r j h1 h2 => f_mark_r (by omega) (by omega)) (fun q hq => (h.1 q hq).to (fun j => f_mark_r (by omega) (by omega)))
theorem f_take_r {M : dM} {a b r j : Nat} (ha : r ≠ 24 + a / 6) (hb : r ≠ 24 + b / 6) : f_take M a b r j = M r j := by
  unfold f_take
  split
  · rfl
  · exact f_mark_r ha hb
theorem Sf.take {M : dM} {a b : Nat} (h : Sf M) (ha : a < 24) (hb : b < 24) : Sf (f_take M a b) :=
  h.lines (fun r j h1 h2 => f_take_r (by omega) (by omega)) (fun q hq => (h.1 q hq).to (fun j => f_take_r (by omega) (by omega)))
theorem Sf.up {M : dM} {r j : Nat} {x : Int32} (h : Sf M) (hr : 36 < r) : Sf (up2 M r j x) :=
  h.lines (fun q j h1 h2 => up2_r (by omega)) (fun q hq => (h.1 q hq).to (fun j => up2_r (by omega)))
theorem Sf.line {M M' : dM} {l : Nat} (h : Sf M) (e : ∀ r j, r ≠ l → (r < 24 ∨ 28 ≤ r) → M' r j = M r j) (hl : l < 24) (ho : lnOK (M' l)) : Sf M' := by
  refine h.lines (fun r j h1 h2 => e r j (by omega) (Or.inr h1)) (fun q hq => ?_)
  by_cases e9 : q = l
  · subst e9; exact ho
  · exact (h.1 q hq).to (fun j => e q j e9 (Or.inl hq))
theorem f_ring_r {M : dM} {c m r j : Nat} (ha : r ≠ 24 + c / 6) (hb : r ≠ 24 + m / 6) (hm : r ≠ m) : f_ring M c m r j = M r j := by
  unfold f_ring
  split
  · exact f_take_r ha hb
  · rw [up2_r hm, up2_r hm, f_enter_r hm, f_take_r ha hb]
theorem lnOK_ring {r : Nat → Int32} {o t : Nat} (h1 : r 1 = 4 ∨ r 1 = 6) (ho : o < 24) (ht : t < 8) (h3 : r 3 = nI o) (h4 : r 4 = nI t) (h5 : r 5 = -1) (h10 : r 10 = -1 ∨ ∃ c, c < 24 ∧ r 10 = nI c) : lnOK r :=
  ⟨fun _ => ⟨o, t, ho, ht, h3, h4⟩, fun h => by rcases h1 with e | e <;> (rw [e] at h; exact absurd h (by decide)), fun h => by rcases h1 with e | e <;> (rw [e] at h; exact absurd h (by decide)), h10, Or.inl h5⟩
theorem Sf.ring {M : dM} {c m : Nat} (h : Sf M) (hc : c < 24) (hm : m < 24) : Sf (f_ring M c m) := by
  refine h.line (l := m) (fun r j hr h9 => f_ring_r (by omega) (by omega) hr) hm ?_
  unfold f_ring
  split
  · exact (h.1 m hm).to (fun j => f_take_r (by omega) (by omega))
  · next hf =>
    obtain ⟨t, ht, et⟩ := (f_free_cases M c m).resolve_left hf
    refine lnOK_ring (o := c) (t := t) (Or.inl ?_) hc ht ?_ ?_ ?_ ?_
    · simp [up2, f_enter]
    · simp [up2]
    · simp [up2, et]
    · simp [up2, f_enter]
    · have : f_take M c m m 10 = M m 10 := f_take_r (by omega) (by omega)
      simp only [up2, f_enter, true_and]
      simp [this]
      exact (h.1 m hm).2.2.2.1
theorem Sf.block {M : dM} {c : Nat} (h : Sf M) (hc : c < 24) : Sf (f_block M c) := (h.enter hc (by decide) (by decide) (by decide) (by decide)).up (by decide)
theorem Sf.late {M : dM} {c m : Nat} (h : Sf M) (hc : c < 24) (hm : m < 24) (h1 : M c 1 = 5) : Sf (up2 M c 5 (nI m)) := by
  refine h.line (l := c) (fun r j hr h9 => up2_r hr) hc ?_
  have e : ∀ j, j ≠ 5 → up2 M c 5 (nI m) c j = M c j := fun j hj => up2_j hj
  obtain ⟨a1, a2, a3, a4, a5⟩ := h.1 c hc
  unfold lnOK
  rw [e 1 (by decide), e 3 (by decide), e 4 (by decide), e 10 (by decide)]
  exact ⟨a1, a2, a3, a4, Or.inr ⟨m, hm, up2_s _ _ _ _⟩⟩
theorem Sf.callLine {M : dM} {c m : Nat} (h : Sf M) (hc : c < 24) (hm : m < 24) : Sf (f_callLine M c m) := by
  unfold f_callLine
  split
  · exact h.enter hc (by decide) (by decide) (by decide) (by decide)
  · split
    · exact (h.enter hc (by decide) (by decide) (by decide) (by decide)).late hc hm (by simp [f_enter_s])
    · split
      · exact (h.ring hc hm).block hc
      · exact (h.ring hc hm).enter hc (by decide) (by decide) (by decide) (by decide)
