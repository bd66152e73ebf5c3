/-! THE START: both sides fresh -/
theorem i5A_at : ∀ (n l : Nat) (N : dM) (r j : Nat), i5A n l N r j = if l ≤ r ∧ r < l + n ∧ (j = 3 ∨ j = 4 ∨ j = 5 ∨ j = 10 ∨ j = 11) then -1 else N r j
  | 0, l, N, r, j => by rw [i5A, if_neg (by omega)]
  | n + 1, l, N, r, j => by
    rw [i5A, i5A_at n (l + 1)]
    by_cases h : l + 1 ≤ r ∧ r < l + 1 + n ∧ (j = 3 ∨ j = 4 ∨ j = 5 ∨ j = 10 ∨ j = 11)
    · rw [if_pos h, if_pos (by omega)]
    · rw [if_neg h]
      by_cases e : r = l
      · subst e
        by_cases q : j = 3 ∨ j = 4 ∨ j = 5 ∨ j = 10 ∨ j = 11
        · rw [if_pos (by omega)]
          rcases q with rfl | rfl | rfl | rfl | rfl <;> simp [up2]
        · rw [if_neg (by omega), up2_j (by omega), up2_j (by omega), up2_j (by omega), up2_j (by omega), up2_j (by omega)]
      · rw [if_neg (by omega), up2_r e, up2_r e, up2_r e, up2_r e, up2_r e]
theorem i5B_at : ∀ (n l : Nat) (N : dM) (r j : Nat), l + n ≤ 4 → i5B n l N r j = if (r = 36 ∧ l ≤ j ∧ j < l + n) ∨ (28 + l ≤ r ∧ r < 28 + l + n ∧ j = 3) then -1 else N r j
  | 0, l, N, r, j, _ => by rw [i5B, if_neg (by omega)]
  | n + 1, l, N, r, j, hl => by
    rw [i5B, i5B_at n (l + 1) _ r j (by omega)]
    by_cases h : (r = 36 ∧ l + 1 ≤ j ∧ j < l + 1 + n) ∨ (28 + (l + 1) ≤ r ∧ r < 28 + (l + 1) + n ∧ j = 3)
    · rw [if_pos h, if_pos (by omega)]
    · rw [if_neg h]
      by_cases e : r = 28 + l ∧ j = 3
      · rw [if_pos (by omega), e.1, e.2, up2_s]
      · by_cases q : r = 36 ∧ j = l
        · rw [if_pos (by omega), q.1, q.2, up2_r (by omega), up2_s]
        · rw [if_neg (by omega)]
          unfold up2
          rw [if_neg e, if_neg q]
theorem i5C_at : ∀ (n l : Nat) (N : dM) (r j : Nat), l + n ≤ 32 → i5C n l N r j = if 24 ≤ r ∧ j < 8 ∧ l ≤ 8 * (r - 24) + j ∧ 8 * (r - 24) + j < l + n then -1 else N r j
  | 0, l, N, r, j, _ => by rw [i5C, if_neg (by omega)]
  | n + 1, l, N, r, j, hl => by
    rw [i5C, i5C_at n (l + 1) _ r j (by omega)]
    by_cases h : 24 ≤ r ∧ j < 8 ∧ l + 1 ≤ 8 * (r - 24) + j ∧ 8 * (r - 24) + j < l + 1 + n
    · rw [if_pos h, if_pos (by omega)]
    · rw [if_neg h]
      by_cases e : r = 24 + l / 8 ∧ j = l % 8
      · rw [if_pos (by omega), e.1, e.2, up2_s]
      · rw [if_neg (by omega)]
        unfold up2
        rw [if_neg e]
theorem nM0_at (r j : Nat) : nM0 r j = if (r < 24 ∧ (j = 3 ∨ j = 4 ∨ j = 5 ∨ j = 10 ∨ j = 11)) ∨ (24 ≤ r ∧ r < 28 ∧ j < 8) ∨ (28 ≤ r ∧ r < 32 ∧ j = 3) ∨ (r = 36 ∧ j < 4) then -1 else 0 := by
  unfold nM0
  rw [i5C_at 32 0 _ r j (by decide), i5B_at 4 0 _ r j (by decide), i5A_at]
  by_cases c1 : 24 ≤ r ∧ j < 8 ∧ 0 ≤ 8 * (r - 24) + j ∧ 8 * (r - 24) + j < 0 + 32
  · rw [if_pos c1, if_pos (by omega)]
  · rw [if_neg c1]
    by_cases c2 : (r = 36 ∧ 0 ≤ j ∧ j < 0 + 4) ∨ (28 + 0 ≤ r ∧ r < 28 + 0 + 4 ∧ j = 3)
    · rw [if_pos c2, if_pos (by omega)]
    · rw [if_neg c2]
      by_cases c3 : 0 ≤ r ∧ r < 0 + 24 ∧ (j = 3 ∨ j = 4 ∨ j = 5 ∨ j = 10 ∨ j = 11)
      · rw [if_pos c3, if_pos (by omega)]
      · rw [if_neg c3, if_neg (by omega)]
theorem dM0_at (r j : Nat) : dM0 r j = if (r < 24 ∧ (j = 2 ∨ j = 3 ∨ j = 4 ∨ j = 5 ∨ j = 10)) ∨ (24 ≤ r ∧ r < 28 ∧ j < 8) ∨ (28 ≤ r ∧ r < 32 ∧ j = 3) ∨ (r = 36 ∧ j < 4) then -1 else 0 := by
  unfold dM0
  by_cases c1 : r < 24
  · rw [if_pos c1]
    by_cases c2 : j = 2 ∨ j = 3 ∨ j = 4 ∨ j = 5 ∨ j = 10
    · rw [if_pos c2, if_pos (by omega)]
    · rw [if_neg c2, if_neg (by omega)]
  · rw [if_neg c1]
    by_cases c2 : r < 28
    · rw [if_pos c2]
      by_cases c3 : j < 8
      · rw [if_pos c3, if_pos (by omega)]
      · rw [if_neg c3, if_neg (by omega)]
    · rw [if_neg c2]
      by_cases c3 : r < 32
      · rw [if_pos c3]
        by_cases c4 : j = 3
        · rw [if_pos c4, if_pos (by omega)]
        · rw [if_neg c4, if_neg (by omega)]
      · rw [if_neg c3]
        by_cases c4 : r = 36
        · rw [if_pos c4]
          by_cases c5 : j < 4
          · rw [if_pos c5, if_pos (by omega)]
          · rw [if_neg c5, if_neg (by omega)]
        · rw [if_neg c4, if_neg (by omega)]
theorem dM0_l {l j : Nat} (hl : l < 24) : dM0 l j = if j = 2 ∨ j = 3 ∨ j = 4 ∨ j = 5 ∨ j = 10 then -1 else 0 := by
  unfold dM0
  rw [if_pos hl]
theorem nM0_l {l j : Nat} (hl : l < 24) : nM0 l j = if j = 3 ∨ j = 4 ∨ j = 5 ∨ j = 10 ∨ j = 11 then -1 else 0 := by
  rw [nM0_at]
  by_cases c : j = 3 ∨ j = 4 ∨ j = 5 ∨ j = 10 ∨ j = 11
  · rw [if_pos c, if_pos (by omega)]
  · rw [if_neg c, if_neg (by omega)]
theorem start_ok : Ok 0 dM0 nM0 := by
  have l1 : ∀ l, l < 24 → dM0 l 1 = 0 := fun l hl => by rw [dM0_l hl]; rfl
  have l10 : ∀ l, l < 24 → dM0 l 10 = -1 := fun l hl => by rw [dM0_l hl]; rfl
  have t0 : dM0 39 5 = 0 := rfl
  refine ⟨⟨fun l hl _ => ⟨?_, ?_⟩, fun q => absurd q (by omega), ⟨fun r j a b c => ?_, fun g hg _ => ?_, ?_, ?_⟩⟩, ⟨fun l hl => ?_, fun p hp => Or.inl ?_, fun g hg => ?_⟩, ⟨fun l hl _ q => ?_, fun l hl _ q => ?_, fun p hp l hl q => ?_, fun l hl c hc q => ?_, fun q => absurd q (by omega), ?_, fun l hl => ?_⟩, fun k hk _ => l10 k hk, ?_, ?_, ?_⟩
  · unfold LR
    simp only [dM0_l hl, nM0_l hl]
    decide
  · unfold CL
    simp only [dM0_l hl]
    decide
  · rw [dM0_at, nM0_at]
    by_cases q : (r < 24 ∧ (j = 2 ∨ j = 3 ∨ j = 4 ∨ j = 5 ∨ j = 10)) ∨ (24 ≤ r ∧ r < 28 ∧ j < 8) ∨ (28 ≤ r ∧ r < 32 ∧ j = 3) ∨ (r = 36 ∧ j < 4)
    · rw [if_pos q, if_pos (by omega)]
    · rw [if_neg q, if_neg (by omega)]
  · rw [dM0_at, nM0_at, if_pos (by omega), if_pos (by omega)]
  · rw [nM0_at, if_neg (by omega)]; rfl
  · rw [nM0_at, if_neg (by omega)]; rfl
  · unfold lnOK
    simp only [dM0_l hl]
    refine ⟨fun q => ?_, fun q => ?_, fun q => ?_, Or.inl rfl, Or.inl rfl⟩
    · rcases q with q | q <;> exact absurd q (by decide)
    · exact absurd q (by decide)
    · exact absurd q (by decide)
  · rw [dM0_at, if_pos (by omega)]
  · have e1 : dM0 (28 + g) 1 = 0 := by rw [dM0_at, if_neg (by omega)]
    have e3 : dM0 (28 + g) 3 = -1 := by rw [dM0_at, if_pos (by omega)]
    have en : grN dM0 g = 0 := by rw [grN, e1]; rfl
    have es : grS dM0 g = 0 := by rw [grS, e3]; rfl
    unfold grOK
    rw [en, es, e1, e3]
    exact ⟨rfl, by decide, fun i hi => absurd hi (by omega), rfl, by decide⟩
  · rw [l1 l hl] at q; exact absurd q (by decide)
  · rw [l1 l hl] at q; exact absurd q (by decide)
  · rw [dM0_at, if_pos (by omega)] at q; exact absurd q.symm (nI_m1 l (by omega))
  · rw [l10 l hl] at q; exact absurd q.symm (nI_m1 c (by omega))
  · rw [t0]; decide
  · rw [t0, dM0_l hl]
    exact ⟨by show -1 ≤ (-1 : Int32).toInt; decide, by show (-1 : Int32).toInt ≤ (0 : Int32).toInt; decide⟩
  · rw [t0]; decide
  · rfl
  · exact Nat.le_refl _
