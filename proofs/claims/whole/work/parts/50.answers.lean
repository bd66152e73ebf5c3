/-! WHAT IS READ is the same on both sides -/
theorem lowR_eq {M N : dM} {c : Int32} (h : Rx 24 M N) : ∀ (n l : Nat), l + n = 24 → lrL M c n l = lrL N c n l
  | 0, _, _ => rfl
  | n + 1, l, e => by
    obtain ⟨hL, -⟩ := h.1 l (by omega) (by omega)
    rw [lrL, lrL, lowR_eq h n (l + 1) (by omega)]
    unfold f_rfor
    rw [hL.1, hL.2.1]
theorem line_eq {M N : dM} {l w : Nat} (h : Rx 24 M N) (hl : l < 24) : f_line M l w = g_line N l w := by
  obtain ⟨⟨b1, b3, b4, b5, b6, b7, b8, b9, b10, b11, b12, b13⟩, d1, d2, d3, d4⟩ := h.1 l hl (by omega)
  have eR : f_lowR M (nI l) = f_lowR N (nI l) := lowR_eq h 24 0 rfl
  unfold f_line g_line
  split
  · exact b1
  split
  · unfold g_rg
    rw [b1, b3, eR]
    split <;> rfl
  split
  · unfold f_slotOf
    rcases lrL_cases M (nI l) 24 0 with q | ⟨t, ht, q, -⟩
    · by_cases h3 : M l 1 = 3
      · have e : g_rg N l = -1 := by rw [g_rg, if_pos (by rw [← b1]; exact h3), ← eR]; exact q
        rw [if_pos h3, if_pos (show f_lowR M (nI l) = -1 from q), e, if_pos (by decide : (-1 : Int32) < 0), ← b4]
        exact (d2 (ne_of_st h3 (by decide)) (ne_of_st h3 (by decide))).symm
      · have e : g_rg N l = -1 := by rw [g_rg, if_neg (by rw [← b1]; exact h3)]
        rw [if_neg h3, e, if_pos (by decide : (-1 : Int32) < 0)]; exact b4
    · by_cases h3 : M l 1 = 3
      · have e : g_rg N l = nI t := by rw [g_rg, if_pos (by rw [← b1]; exact h3), ← eR]; exact q
        have q' : f_lowR M (nI l) = nI t := q
        rw [if_pos h3, q', e, if_neg (nI_m1 t (by omega)), if_neg (nI_pos (by omega)), nI_clamp (by omega)]
        exact (h.1 t (by omega) (by omega)).1.2.2.1
      · have e : g_rg N l = -1 := by rw [g_rg, if_neg (by rw [← b1]; exact h3)]
        rw [if_neg h3, e, if_pos (by decide : (-1 : Int32) < 0)]; exact b4
  split
  · by_cases h7 : M l 7 = 0
    · have c : ¬ (N l 1 = 6 ∧ ¬ N l 7 = 0) := fun q => q.2 (by rw [← b7]; exact h7)
      rw [if_pos h7, if_neg c, b8, Int32.add_zero]
    · have h6 : M l 1 = 6 := Decidable.byContradiction (fun q => h7 (d4 q))
      have c : N l 1 = 6 ∧ ¬ N l 7 = 0 := ⟨by rw [← b1]; exact h6, by rw [← b7]; exact h7⟩
      rw [if_neg h7, if_pos c, b8]
      unfold f_units g_units
      rw [b13 h7, h.2.2.2.2.1]
  split
  · rw [b9]
  · exact b10
theorem cnt_cn {N : dM} {u r : Nat} : ∀ (n j : Nat) (a : Int32), j + n = 8 → cnL N (n + r) (8 * u + j) a = cnL N r (8 * (u + 1)) (cnt (N (24 + u)) n j a)
  | 0, j, a, e => by rw [cnt, Nat.zero_add, show 8 * u + j = 8 * (u + 1) by omega]
  | n + 1, j, a, e => by
    rw [show n + 1 + r = (n + r) + 1 by omega, cnL, cnt, show (8 * u + j) / 8 = u by omega, show (8 * u + j) % 8 = j by omega, show 8 * u + j + 1 = 8 * u + (j + 1) by omega, cnt_cn n (j + 1) _ (by omega)]
    by_cases q : N (24 + u) j < 0
    · rw [if_pos q, if_pos q, Int32.add_zero]
    · rw [if_neg q, if_neg q]
theorem cntU_cn {M N : dM} (h : Rx 24 M N) : ∀ (n u : Nat) (a : Int32), u + n = 4 → cntU M n u a = cnL N (8 * n) (8 * u) a
  | 0, _, _, _ => rfl
  | n + 1, u, a, e => by
    have er : M (24 + u) = N (24 + u) := funext (fun j => h.2.2.1 (24 + u) j (by omega) (by omega) (by omega))
    have c := cnt_cn (N := N) (u := u) (r := 8 * n) 8 0 a rfl
    rw [Nat.add_zero] at c
    rw [cntU, show 8 * (n + 1) = 8 + 8 * n by omega, c, er]
    exact cntU_cn h n (u + 1) _ (by omega)
theorem count_eq {M N : dM} {x : Int32} (h : Rx 24 M N) : f_count M x = g_count N x := by
  unfold f_count g_count
  rw [h.2.2.2.2.2, h.2.2.1 37 1 (by decide) (by decide) (by omega), cntU_cn h 4 0 0 rfl]
theorem keeps_iff {n : Nat} {M N : dM} {x : Int32} (h : Ok n M N) (hn : n < 100000) : f_keeps M x = true ↔ okB5 N x := by
  obtain ⟨hR, -, -, -, -, a5, a6⟩ := h
  have e : N 37 1 = M 37 1 := (hR.2.2.1 37 1 (by decide) (by decide) (by omega)).symm
  unfold f_keeps okB5 g_in
  rw [decide_eq_true_iff, decide_eq_true_iff, e, a5]
  generalize wr M = w at *
  have e0 : (0 : Int32).toInt = 0 := by decide
  have e1 : (1 : Int32).toInt = 1 := by decide
  have e60 : (60 : Int32).toInt = 60 := by decide
  have ew : (nI w).toInt = w := nI_toInt (by omega)
  have s1 : (nI w - 1).toInt = w - 1 := by
    rw [Int32.toInt_sub, ew, e1, Int.bmod_eq_of_le] <;> omega
  have s60 : (nI w - 60).toInt = w - 60 := by
    rw [Int32.toInt_sub, ew, e60, Int.bmod_eq_of_le] <;> omega
  have sx : ¬ x.toInt < 0 → ¬ (w : Int) ≤ x.toInt → (x + 60).toInt = x.toInt + 60 := fun h1 h2 => by
    rw [Int32.toInt_add, e60, Int.bmod_eq_of_le] <;> omega
  simp only [Int32.lt_iff_toInt_lt, Int32.le_iff_toInt_le, e0, ew, s1, s60]
  constructor
  · intro ⟨h1, h2, h3⟩
    refine ⟨⟨h1, by omega⟩, ?_⟩
    rw [sx h1 h2]
    omega
  · intro ⟨⟨h1, h2⟩, h3⟩
    have h2' : ¬ (w : Int) ≤ x.toInt := by omega
    rw [sx h1 h2'] at h3
    exact ⟨h1, h2', by omega⟩
