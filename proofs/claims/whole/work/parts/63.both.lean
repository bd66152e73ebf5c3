/-! ONE CALL ON BOTH SIDES: what the helper told, the model tells too -/
theorem gi_line {x : Int32} : g_in x 0 23 = f_isLine x := by
  have h : g_in x 0 23 = true ↔ f_isLine x = true := by
    rw [in_iff (b' := 24) (by decide)]
    exact decide_eq_true_iff.symm
  cases h1 : g_in x 0 23 <;> cases h2 : f_isLine x <;> simp_all
theorem gi_f {x a b : Int32} {p : Prop} (h : g_in x a b = true ↔ p) (hp : ¬ p) : g_in x a b = false := by
  cases h1 : g_in x a b
  · rfl
  · exact absurd (h.mp h1) hp
theorem gi_d {x : Int32} : g_in x 0 9 = true ↔ okD x := decide_eq_true_iff
theorem gi_n {x : Int32} : g_in x 10 99 = true ↔ okN x := decide_eq_true_iff
theorem gi_t {x : Int32} : g_in x 1 1000 = true ↔ okT x := decide_eq_true_iff
theorem gi_o {x : Int32} : g_in x 0 3 = true ↔ okO x := decide_eq_true_iff
theorem gi_w {x : Int32} : g_in x 0 5 = true ↔ okW x := decide_eq_true_iff
theorem gi_q {x : Int32} : g_in x 0 2 = true ↔ okQ x := decide_eq_true_iff
theorem gi_p {x : Int32} : g_in x 0 3 = true ↔ okPl x := in_iff (b' := 4) (by decide)
theorem gi_7 {x : Int32} : g_in x 0 7 = true ↔ ¬ x < 0 ∧ ¬ 8 ≤ x := in_iff (b' := 8) (by decide)
theorem gi_slot {x y : Int32} (h : f_isSlot x y = false) : g_in x 0 3 = false ∨ g_in y 0 7 = false := by
  by_cases c : okPl x
  · refine Or.inr (gi_f gi_7 (fun q => ?_))
    exact absurd (decide_eq_true (p := ¬ x < 0 ∧ ¬ 4 ≤ x ∧ ¬ y < 0 ∧ ¬ 8 ≤ y) ⟨c.1, c.2, q.1, q.2⟩) (by rw [show decide (¬ x < 0 ∧ ¬ 4 ≤ x ∧ ¬ y < 0 ∧ ¬ 8 ≤ y) = false from h]; decide)
  · exact Or.inl (gi_f gi_p c)
theorem Ok.up1 {n : Nat} {M N : dM} (h : Ok n M N) : Ok (n + 1) M N := ⟨h.1, h.2.up1⟩
theorem Ok.bad {n : Nat} {M N : dM} {v : Int32} (h : Ok n M N) : Ok (n + 1) M (up2 N 39 7 v) := h.thr.up1
theorem Ok.row {n r j : Nat} {M N : dM} (h : Ok n M N) (h1 : 24 ≤ r) (h2 : r ≤ 38) (h3 : r < 28 ∨ 32 ≤ r ∨ j ≠ 3) : M r j = N r j := h.1.2.2.1 r j h1 h2 h3
theorem Ok.wrM {n : Nat} {M N : dM} (h : Ok n M N) (hn : n < 512) : M 37 1 = nI (wr M) ∧ wr M < 100000 := ⟨h.2.2.2.2.2.1, Nat.lt_of_le_of_lt h.2.2.2.2.2.2 (Nat.lt_trans hn (by decide))⟩
theorem Ok.wrN {n : Nat} {M N : dM} (h : Ok n M N) (hn : n < 512) : N 37 1 = nI (wr N) ∧ wr N < 100000 := by
  have e : N 37 1 = M 37 1 := (h.row (by decide) (by decide) (by decide)).symm
  have e2 : wr N = wr M := by rw [wr, wr, e]
  rw [e2, e]
  exact h.wrM hn
theorem Ok.ln {n l : Nat} {M N : dM} (h : Ok n M N) (hl : l < 24) : LR (M l) (N l) ∧ CL (M l) := h.1.1 l hl (by omega)
theorem Z_at {N : dM} {r j : Nat} (h : r ≠ 39 ∨ j ≠ 7) : Z N r j = N r j := by
  rcases h with h | h
  · exact up2_r h
  · exact up2_j h
theorem b_up {n : Nat} {M N : dM} {x z r a : Int32} {M' : dM} (h : Ok n M N) (hn : n < 512) (hG : Gd z N) (hH : H_up M x r a M') : ∃ (w : Int32) (N' : dM), (∀ (R : pM) (l9 : Launch), pMet l9 yX5_up kX5_up false [.ref 44, .int x] (SM M' ++ (MM N ++ R)) (fun v m9 => v = some (.int w) ∧ m9 = SM M' ++ (MM N' ++ R)) (fun _ _ => False)) ∧ Gd r N' ∧ (r = 0 → a = w) ∧ Ok (n + 1) M' N' := by
  rcases hH with ⟨rfl, l, hl, rfl, hk, rfl, rfl⟩ | ⟨rfl, hb, rfl⟩ | ⟨rfl, ⟨l, hl, rfl, hk⟩, rfl⟩
  · have hO : Ok (n + 1) (f_up M l) (g_up (Z N) l) := up_eq h.thr hl hk
    have hk9 : M l 1 = 0 ∨ M l 1 = 4 := of_decide_eq_true hk
    rw [h.st1 hl] at hk9
    exact ⟨_, _, fun R l9 => c5_up_ok h.1 h.2.2.1 h.2.1 hl hk9 l9, hG.thr.gup hl, fun _ => hO.st1 hl, hO⟩
  · exact ⟨0, _, fun R l9 => c5_up_bad x (by rw [gi_line]; exact hb) l9, hG.thr, fun q => absurd q (by decide), h.bad⟩
  · have hk9 : ¬ (M l 1 = 0 ∨ M l 1 = 4) := of_decide_eq_false hk
    rw [h.st1 hl] at hk9
    exact ⟨0, _, fun R l9 => c5_up_two hl (fun q => hk9 (Or.inl q)) (fun q => hk9 (Or.inr q)) l9, hG.thr, fun q => absurd q (by decide), h.bad⟩
theorem b_down {n : Nat} {M N : dM} {x z r a : Int32} {M' : dM} (h : Ok n M N) (hn : n < 512) (hG : Gd z N) (hH : H_down M x r a M') : ∃ (N' : dM), (∀ (R : pM) (l9 : Launch), pMet l9 yX5_down kX5_down false [.ref 44, .int x] (SM M' ++ (MM N ++ R)) (fun v m9 => v = none ∧ m9 = SM M' ++ (MM N' ++ R)) (fun _ _ => False)) ∧ Gd r N' ∧ Ok (n + 1) M' N' := by
  rcases hH with ⟨rfl, l, hl, rfl, hk, rfl⟩ | ⟨rfl, hb, rfl⟩ | ⟨rfl, ⟨l, hl, rfl, hk⟩, rfl⟩
  · have hO : Ok (n + 1) (f_down M l) (g_down (Z N) l) := down_eq (by omega) h.thr hl
    have hk9 : ¬ (M l 1 = 0 ∨ M l 1 = 4) := of_decide_eq_false hk
    rw [h.st1 hl] at hk9
    exact ⟨_, fun R l9 => c5_down_ok h.1 h.2.2.1 h.2.1 hl (fun q => hk9 (Or.inl q)) (fun q => hk9 (Or.inr q)) (h.wrN hn) l9, hG.thr.gdown hl, hO⟩
  · exact ⟨_, fun R l9 => c5_down_bad x (by rw [gi_line]; exact hb) l9, hG.thr, h.bad⟩
  · have hk9 : M l 1 = 0 ∨ M l 1 = 4 := of_decide_eq_true hk
    rw [h.st1 hl] at hk9
    exact ⟨_, fun R l9 => c5_down_two hl hk9 l9, hG.thr, h.bad⟩
theorem b_digit {n : Nat} {M N : dM} {x d z r a : Int32} {M' : dM} (h : Ok n M N) (hn : n < 512) (hG : Gd z N) (hH : H_digit M x d r a M') : ∃ (w : Int32) (N' : dM), (∀ (R : pM) (l9 : Launch), pMet l9 yX5_digit kX5_digit false [.ref 44, .int x, .int d] (SM M' ++ (MM N ++ R)) (fun v m9 => v = some (.int w) ∧ m9 = SM M' ++ (MM N' ++ R)) (fun _ _ => False)) ∧ Gd r N' ∧ (r = 0 → a = w) ∧ Ok (n + 1) M' N' := by
  rcases hH with ⟨rfl, l, hl, rfl, hk, rfl, rfl⟩ | ⟨rfl, hb, rfl⟩ | ⟨rfl, hb, rfl⟩
  · have hO : Ok (n + 1) (f_digit M l d) (g_digit (Z N) l d) := digit_eq (by omega) h.thr hl
    exact ⟨_, _, fun R l9 => c5_digit_ok h.1 h.2.2.1 h.2.1 (h.2.time (by omega)) hl d (gi_d.mpr hk) l9, hG.thr.gdigit hl, fun _ => hO.st1 hl, hO⟩
  · refine ⟨0, _, fun R l9 => c5_digit_bad x d ?_ l9, hG.thr, fun q => absurd q (by decide), h.bad⟩
    rcases hb with q | q
    · exact Or.inl (by rw [gi_line]; exact q)
    · exact Or.inr (gi_f gi_d q)
  · exact hb.elim
theorem b_camp {n : Nat} {M N : dM} {x z r a : Int32} {M' : dM} (h : Ok n M N) (hn : n < 512) (hG : Gd z N) (hH : H_camp M x r a M') : ∃ (w : Int32) (N' : dM), (∀ (R : pM) (l9 : Launch), pMet l9 yX5_camp kX5_camp false [.ref 44, .int x] (SM M' ++ (MM N ++ R)) (fun v m9 => v = some (.int w) ∧ m9 = SM M' ++ (MM N' ++ R)) (fun _ _ => False)) ∧ Gd r N' ∧ (r = 0 → a = w) ∧ Ok (n + 1) M' N' := by
  rcases hH with ⟨rfl, l, hl, rfl, hk, rfl, rfl⟩ | ⟨rfl, hb, rfl⟩ | ⟨rfl, ⟨l, hl, rfl, hk⟩, rfl⟩
  · have hO : Ok (n + 1) (f_camp M l) (g_camp (Z N) l) := camp_eq h.thr hl hk
    obtain ⟨hL, hC⟩ := h.ln hl
    obtain ⟨k1, k2, k3⟩ := hk
    have h5 : M l 1 = 5 := Decidable.byContradiction (fun q => k1 (hC.2.2.1 q))
    rcases (h.2.1.1 l hl).2.2.2.2 with q | ⟨m, hm, e5⟩
    · exact absurd q k1
    have em : ltf M l = m := by rw [ltf, e5, nI_clamp (by omega)]
    rw [em] at k2 k3
    have e5N : N l 5 = nI m := by rw [← hL.2.2.2.1]; exact e5
    refine ⟨_, _, fun R l9 => c5_camp_ok hl hm (by rw [← h.st1 hl]; exact h5) e5N (by rw [← h.st1 hm]; exact k2) ?_ l9, hG.thr.gcamp hl ?_, fun _ => e5, hO⟩
    · rw [← (h.ln hm).1.2.2.2.2.2.2.2.2.1, k3]; decide
    · have e : up2 N 39 7 0 l 5 = N l 5 := up2_j (by decide)
      rw [e, e5N]
      exact w24_n hm
  · exact ⟨0, _, fun R l9 => c5_camp_bad x (by rw [gi_line]; exact hb) l9, hG.thr, fun q => absurd q (by decide), h.bad⟩
  · obtain ⟨hL, hC⟩ := h.ln hl
    have e5 : M l 5 = N l 5 := hL.2.2.2.1
    refine ⟨0, _, fun R l9 => c5_camp_two hl (by rw [← e5]; exact (h.2.1.1 l hl).2.2.2.2) ?_ l9, hG.thr, fun q => absurd q (by decide), h.bad⟩
    intro ⟨q1, q2, q3, q4⟩
    refine hk ?_
    rcases (h.2.1.1 l hl).2.2.2.2 with q | ⟨m, hm, e⟩
    · rw [← e5, q] at q2; exact absurd (by decide) q2
    have em : ltf M l = m := by rw [ltf, e, nI_clamp (by omega)]
    have en : ltf N l = m := by rw [ltf, ← e5, e, nI_clamp (by omega)]
    rw [en] at q3 q4
    refine ⟨?_, ?_, ?_⟩
    · intro q; rw [← e5, q] at q2; exact absurd (by decide) q2
    · rw [em, h.st1 hm]; exact q3
    · rw [em]
      rcases (h.2.1.1 m hm).2.2.2.1 with g | ⟨c, hc, g⟩
      · exact g
      · rw [← (h.ln hm).1.2.2.2.2.2.2.2.2.1, g] at q4; exact absurd q4 (nI_pos (by omega))
theorem b_park {n : Nat} {M N : dM} {x y z r a : Int32} {M' : dM} (h : Ok n M N) (hn : n < 512) (hG : Gd z N) (hH : H_park M x y r a M') : ∃ (w : Int32) (N' : dM), (∀ (R : pM) (l9 : Launch), pMet l9 yX5_park kX5_park false [.ref 44, .int x, .int y] (SM M' ++ (MM N ++ R)) (fun v m9 => v = some (.int w) ∧ m9 = SM M' ++ (MM N' ++ R)) (fun _ _ => False)) ∧ Gd r N' ∧ (r = 0 → a = w) ∧ Ok (n + 1) M' N' := by
  rcases hH with ⟨rfl, l, p, hl, hp, rfl, rfl, ⟨k6, kP⟩, rfl, rfl⟩ | ⟨rfl, hb, rfl⟩ | ⟨rfl, ⟨l, p, hl, hp, rfl, rfl, hk⟩, rfl⟩
  · have hO : Ok (n + 1) (f_park M l p) (g_park (Z N) l p) := park_eq (by omega) h.thr hl hp k6
    obtain ⟨hL, hC⟩ := h.ln hl
    obtain ⟨o, t, ho, ht, e3, e4⟩ := (h.2.1.1 l hl).1 (Or.inr k6)
    have eo : oth M l = o := by rw [oth, e3, nI_clamp (by omega)]
    exact ⟨_, _, fun R l9 => c5_park_ok hl hp ho ht (by rw [← h.st1 hl]; exact k6) (by rw [← h.row (r := 36) (by decide) (by decide) (by omega), kP]; decide) (by rw [← hL.2.1]; exact e3) (by rw [← hL.2.2.1]; exact e4) (h.wrN hn) l9, hG.thr.gpark hl hp, fun _ => by rw [eo], hO⟩
  · refine ⟨0, _, fun R l9 => c5_park_bad x y ?_ l9, hG.thr, fun q => absurd q (by decide), h.bad⟩
    rcases hb with q | q
    · exact Or.inl (by rw [gi_line]; exact q)
    · exact Or.inr (gi_f gi_p q)
  · refine ⟨0, _, fun R l9 => c5_park_two hl hp ?_ l9, hG.thr, fun q => absurd q (by decide), h.bad⟩
    intro ⟨q1, q2⟩
    refine hk ⟨by rw [h.st1 hl]; exact q1, ?_⟩
    rw [← h.row (r := 36) (by decide) (by decide) (by omega)] at q2
    rcases h.2.1.2.1 p hp with g | ⟨c, hc, g⟩
    · exact g
    · rw [g] at q2; exact absurd q2 (nI_pos (by omega))
theorem b_transfer {n : Nat} {M N : dM} {x y z r a : Int32} {M' : dM} (h : Ok n M N) (hn : n < 512) (hG : Gd z N) (hH : H_transfer M x y r a M') : ∃ (w : Int32) (N' : dM), (∀ (R : pM) (l9 : Launch), pMet l9 yX5_transfer kX5_transfer false [.ref 44, .int x, .int y] (SM M' ++ (MM N ++ R)) (fun v m9 => v = some (.int w) ∧ m9 = SM M' ++ (MM N' ++ R)) (fun _ _ => False)) ∧ Gd r N' ∧ (r = 0 → a = w) ∧ Ok (n + 1) M' N' := by
  rcases hH with ⟨rfl, l, hl, rfl, ⟨k6, kN⟩, rfl, rfl⟩ | ⟨rfl, hb, rfl⟩ | ⟨rfl, ⟨l, hl, rfl, kN, hk⟩, rfl⟩
  · have hO : Ok (n + 1) (f_trans M l y) (g_trans (Z N) l y) := (trans_eq (by omega) h.thr hl k6).1
    obtain ⟨hL, hC⟩ := h.ln hl
    obtain ⟨o, t, ho, ht, e3, e4⟩ := (h.2.1.1 l hl).1 (Or.inr k6)
    have eo : oth M l = o := by rw [oth, e3, nI_clamp (by omega)]
    exact ⟨_, _, fun R l9 => c5_transfer_ok h.1 h.2.2.1 h.2.1 (h.2.time (by omega)) hl ho ht (by rw [← h.st1 hl]; exact k6) (by rw [← hL.2.1]; exact e3) (by rw [← hL.2.2.1]; exact e4) (h.wrN hn) y (gi_n.mpr kN) l9, hG.thr.gtrans hl, fun _ => by rw [eo]; exact hO.st1 ho, hO⟩
  · refine ⟨0, _, fun R l9 => c5_transfer_bad x y ?_ l9, hG.thr, fun q => absurd q (by decide), h.bad⟩
    rcases hb with q | q
    · exact Or.inl (by rw [gi_line]; exact q)
    · exact Or.inr (gi_f gi_n q)
  · exact ⟨0, _, fun R l9 => c5_transfer_two hl y (gi_n.mpr kN) (by rw [← h.st1 hl]; exact hk) l9, hG.thr, fun q => absurd q (by decide), h.bad⟩
theorem okT_nI {x : Int32} (h : okT x) : ∃ K, K < 1001 ∧ x = nI K := by
  obtain ⟨h1, h2⟩ := h
  rw [Int32.lt_iff_toInt_lt] at h1 h2
  have e1 : (1 : Int32).toInt = 1 := by decide
  have e2 : (1000 : Int32).toInt = 1000 := by decide
  rw [e1] at h1
  rw [e2] at h2
  refine ⟨x.toInt.toNat, by omega, ?_⟩
  apply Int32.toInt_inj.mp
  rw [nI_toInt (by omega)]
  omega
theorem b_tick {n : Nat} {M N : dM} {x z r a : Int32} {M' : dM} (h : Ok n M N) (hn : n < 512) (hG : Gd z N) (hH : H_tick M x r a M') : ∃ (w : Int32) (N' : dM), (∀ (R : pM) (l9 : Launch), pMet l9 yX5_tick kX5_tick false [.ref 44, .int x] (SM M' ++ (MM N ++ R)) (fun v m9 => v = some (.int w) ∧ m9 = SM M' ++ (MM N' ++ R)) (fun _ _ => False)) ∧ Gd r N' ∧ (r = 0 → a = w) ∧ Ok (n + 1) M' N' := by
  rcases hH with ⟨rfl, hk, rfl, rfl⟩ | ⟨rfl, hb, rfl⟩ | ⟨rfl, hb, rfl⟩
  · have hO : Ok (n + 1) (f_tick M x) (g_tick (Z N) x) := (tick_eq (by omega) h.thr hk).1
    obtain ⟨K, hK, rfl⟩ := okT_nI hk
    have t0 : 0 ≤ (M 39 5).toInt := h.2.2.1.2.2.2.2.2.1
    have t1 : (M 39 5).toInt ≤ 1000 * (n : Int) := h.2.2.2.2.1
    have eT : Z N 39 5 = nI (M 39 5).toInt.toNat := by
      rw [Z_at (Or.inr (by decide)), ← h.1.2.2.2.2.1]
      apply Int32.toInt_inj.mp
      rw [nI_toInt (by omega)]
      omega
    exact ⟨_, _, fun R l9 => c5_tick_ok hK (gi_t.mpr hk) ⟨M, h.thr.1, h.2.1, h.2.2.1, h.2.2.2.1, by omega⟩ eT (by omega) l9, hG.thr.gtick, fun _ => hO.1.2.2.2.2.1, hO⟩
  · exact ⟨0, _, fun R l9 => c5_tick_bad x (gi_f gi_t hb) l9, hG.thr, fun q => absurd q (by decide), h.bad⟩
  · exact hb.elim
theorem hasG_eq {n g : Nat} {M N : dM} {y : Int32} (h : Ok n M N) (hg : g < 4) : hasG N g y = hasG M g y ∧ grN N g = grN M g ∧ N (28 + g) 1 = M (28 + g) 1 := by
  have e1 : N (28 + g) 1 = M (28 + g) 1 := (h.row (by omega) (by omega) (by omega)).symm
  have e2 : N (32 + g) = M (32 + g) := funext (fun j => (h.row (by omega) (by omega) (by omega)).symm)
  have e3 : grN N g = grN M g := by rw [grN, grN, e1]
  exact ⟨by rw [hasG, hasG, e2, e3], e3, e1⟩
theorem b_group {n : Nat} {M N : dM} {x y s z r a : Int32} {M' : dM} (h : Ok n M N) (hn : n < 512) (hG : Gd z N) (hH : H_group M x y s r a M') : ∃ (w : Int32) (N' : dM), (∀ (R : pM) (l9 : Launch), pMet l9 yX5_group kX5_group false [.ref 44, .int x, .int y, .int s] (SM M' ++ (MM N ++ R)) (fun v m9 => v = some (.int w) ∧ m9 = SM M' ++ (MM N' ++ R)) (fun _ _ => False)) ∧ Gd r N' ∧ (r = 0 → a = w) ∧ Ok (n + 1) M' N' := by
  rcases hH with ⟨rfl, ⟨g, hg, rfl, rfl, hk, rfl, rfl⟩ | ⟨g, hg, rfl, k0, ⟨kl, kh⟩, k6, rfl, rfl⟩⟩ | ⟨rfl, hb, rfl⟩ | ⟨rfl, ⟨g, hg, rfl, k0, ⟨kl, kh⟩, k6⟩, rfl⟩
  · exact ⟨0, _, fun R l9 => c5_group_new hg s (gi_o.mpr hk) l9, hG.thr.grestart hg, fun _ => rfl, restart_eq h.thr hg⟩
  · obtain ⟨l, hl, rfl⟩ := isLine_of kl
    obtain ⟨g1, g2, g3, -⟩ := h.2.1.2.2 g hg
    obtain ⟨e1, e2, e3⟩ := hasG_eq (y := nI l) h hg
    have h6 : grN M g < 6 := by
      rcases Nat.lt_or_eq_of_le g2 with q | q
      · exact q
      · rw [q] at g1; exact absurd g1 k6
    have hO : Ok (n + 1) (f_add M g (grN M g) (nI l)) (f_add (Z N) g (grN M g) (nI l)) := add_eq h.thr hg hl h6
    refine ⟨f_add (Z N) g (grN M g) (nI l) (28 + g) 1, f_add (Z N) g (grN M g) (nI l), fun R l9 => ?_, hG.thr.gadd hg hl, fun _ => ?_, hO⟩
    · have := c5_group_add (M := f_join M g (nI l)) (N := N) (R := R) hg hl s (by rw [e2, e3]; exact g1) (by rw [e2]; exact g2) (by rw [e1]; exact kh) (by rw [e3]; exact k6) l9
      rw [e2] at this
      exact this
    · rw [f_join]; exact hO.row (by omega) (by omega) (by omega)
  · by_cases c1 : okPl x
    · rcases hb with q | ⟨g, hg, rfl, ⟨rfl, q⟩ | ⟨q0, q⟩⟩
      · exact absurd c1 q
      · exact ⟨0, _, fun R l9 => c5_group_bad3 hg s (gi_f gi_o q) l9, hG.thr, fun q => absurd q (by decide), h.bad⟩
      · obtain ⟨g1, g2, g3, -⟩ := h.2.1.2.2 g hg
        obtain ⟨e1, e2, e3⟩ := hasG_eq (y := y) h hg
        by_cases c2 : f_isLine y = true
        · obtain ⟨l, hl, rfl⟩ := isLine_of c2
          have c3 : hasG M g (nI l) = true := by
            cases c3 : hasG M g (nI l)
            · exact absurd ⟨c2, c3⟩ q
            · rfl
          exact ⟨0, _, fun R l9 => c5_group_bad4 hg hl s (by rw [e2, e3]; exact g1) (by rw [e2]; exact g2) (by rw [e1]; exact c3) l9, hG.thr, fun q => absurd q (by decide), h.bad⟩
        · refine ⟨0, _, fun R l9 => c5_group_bad2 (nI g) y s (in3 hg) (gi_f (in_iff (b' := 24) (by decide)) (fun p => c2 (decide_eq_true ⟨?_, p.2⟩))) l9, hG.thr, fun q => absurd q (by decide), h.bad⟩
          intro p9
          refine q0 ?_
          have p1 := p.1
          rw [Int32.lt_iff_toInt_lt] at p1 p9
          have e1 : (-1 : Int32).toInt = -1 := by decide
          have e0 : (0 : Int32).toInt = 0 := by decide
          rw [e1] at p1
          rw [e0] at p9
          apply Int32.toInt_inj.mp
          rw [e1]
          omega
    · exact ⟨0, _, fun R l9 => c5_group_bad1 x y s (gi_f gi_p c1) l9, hG.thr, fun q => absurd q (by decide), h.bad⟩
  · obtain ⟨l, hl, rfl⟩ := isLine_of kl
    obtain ⟨g1, g2, g3, -⟩ := h.2.1.2.2 g hg
    obtain ⟨e1, e2, e3⟩ := hasG_eq (y := nI l) h hg
    exact ⟨0, _, fun R l9 => c5_group_two hg hl s (by rw [e2, e3]; exact g1) (by rw [e2]; exact g2) (by rw [e1]; exact kh) (by rw [e3]; exact k6) l9, hG.thr, fun q => absurd q (by decide), h.bad⟩
theorem b_slot {n : Nat} {M N : dM} {x y s z r a : Int32} {M' : dM} (h : Ok n M N) (hn : n < 512) (hG : Gd z N) (hH : H_slot M x y s r a M') : ∃ (N' : dM), (∀ (R : pM) (l9 : Launch), pMet l9 yX5_slot kX5_slot false [.ref 44, .int x, .int y, .int s] (SM M' ++ (MM N ++ R)) (fun v m9 => v = none ∧ m9 = SM M' ++ (MM N' ++ R)) (fun _ _ => False)) ∧ Gd r N' ∧ Ok (n + 1) M' N' := by
  rcases hH with ⟨rfl, u, t, hu, ht, rfl, rfl, hk, rfl⟩ | ⟨rfl, hb, rfl⟩ | ⟨rfl, ⟨u, t, hu, ht, rfl, rfl, hk⟩, rfl⟩
  · exact ⟨_, fun R l9 => c5_slot_ok hu ht s (by rw [← h.row (by omega) (by omega) (by omega)]; exact hk) l9, hG.thr.gslot hu, slot_eq h.thr hu⟩
  · exact ⟨_, fun R l9 => c5_slot_bad x y s (gi_slot hb) l9, hG.thr, h.bad⟩
  · exact ⟨_, fun R l9 => c5_slot_two hu ht s (by rw [← h.row (by omega) (by omega) (by omega)]; exact hk) l9, hG.thr, h.bad⟩
theorem b_carries {n : Nat} {M N : dM} {x y z r a : Int32} {M' : dM} (h : Ok n M N) (hn : n < 512) (hG : Gd z N) (hH : H_carries M x y r a M') : ∃ (w : Int32) (N' : dM), (∀ (R : pM) (l9 : Launch), pMet l9 yX5_carries kX5_carries false [.ref 44, .int x, .int y] (SM M' ++ (MM N ++ R)) (fun v m9 => v = some (.int w) ∧ m9 = SM M' ++ (MM N' ++ R)) (fun _ _ => False)) ∧ Gd r N' ∧ (r = 0 → a = w) ∧ Ok (n + 1) M' N' := by
  rcases hH with ⟨rfl, u, t, hu, ht, rfl, rfl, rfl, rfl⟩ | ⟨rfl, hb, rfl⟩ | ⟨rfl, hb, rfl⟩
  · exact ⟨_, _, fun R l9 => c5_carries_ok hu ht l9, hG.thr, fun _ => (h.thr (v := 0)).row (by omega) (by omega) (by omega), h.bad⟩
  · exact ⟨0, _, fun R l9 => c5_carries_bad x y (gi_slot hb) l9, hG.thr, fun q => absurd q (by decide), h.bad⟩
  · exact hb.elim
theorem b_line {n : Nat} {M N : dM} {x y z r a : Int32} {M' : dM} (h : Ok n M N) (hn : n < 512) (hG : Gd z N) (hH : H_line M x y r a M') : ∃ (w : Int32) (N' : dM), (∀ (R : pM) (l9 : Launch), pMet l9 yX5_line kX5_line false [.ref 44, .int x, .int y] (SM M' ++ (MM N ++ R)) (fun v m9 => v = some (.int w) ∧ m9 = SM M' ++ (MM N' ++ R)) (fun _ _ => False)) ∧ Gd r N' ∧ (r = 0 → a = w) ∧ Ok (n + 1) M' N' := by
  rcases hH with ⟨rfl, l, q, hl, hq, rfl, rfl, rfl, rfl⟩ | ⟨rfl, hb, rfl⟩ | ⟨rfl, hb, rfl⟩
  · exact ⟨_, _, fun R l9 => c5_line_ok hl hq l9, hG.thr, fun _ => line_eq (h.thr (v := 0)).1 hl, h.bad⟩
  · refine ⟨0, _, fun R l9 => c5_line_bad x y ?_ l9, hG.thr, fun q => absurd q (by decide), h.bad⟩
    rcases hb with q | q
    · exact Or.inl (by rw [gi_line]; exact q)
    · exact Or.inr (gi_f gi_w q)
  · exact hb.elim
theorem b_count {n : Nat} {M N : dM} {x z r a : Int32} {M' : dM} (h : Ok n M N) (hn : n < 512) (hG : Gd z N) (hH : H_count M x r a M') : ∃ (w : Int32) (N' : dM), (∀ (R : pM) (l9 : Launch), pMet l9 yX5_count kX5_count false [.ref 44, .int x] (SM M' ++ (MM N ++ R)) (fun v m9 => v = some (.int w) ∧ m9 = SM M' ++ (MM N' ++ R)) (fun _ _ => False)) ∧ Gd r N' ∧ (r = 0 → a = w) ∧ Ok (n + 1) M' N' := by
  rcases hH with ⟨rfl, hk, rfl, rfl⟩ | ⟨rfl, hb, rfl⟩ | ⟨rfl, hb, rfl⟩
  · exact ⟨_, _, fun R l9 => c5_count_ok x (gi_q.mpr hk) l9, hG.thr, fun _ => count_eq (h.thr (v := 0)).1, h.bad⟩
  · exact ⟨0, _, fun R l9 => c5_count_bad x (gi_f gi_q hb) l9, hG.thr, fun q => absurd q (by decide), h.bad⟩
  · exact hb.elim
theorem b_book {n : Nat} {M N : dM} {x y z r a : Int32} {M' : dM} (h : Ok n M N) (hn : n < 512) (hG : Gd z N) (hH : H_book M x y r a M') : ∃ (w : Int32) (N' : dM), (∀ (R : pM) (l9 : Launch), pMet l9 yX5_book kX5_book false [.ref 44, .int x, .int y] (SM M' ++ (MM N ++ R)) (fun v m9 => v = some (.int w) ∧ m9 = SM M' ++ (MM N' ++ R)) (fun _ _ => False)) ∧ Gd r N' ∧ (r = 0 → a = w) ∧ Ok (n + 1) M' N' := by
  have hn9 : n < 100000 := by omega
  rcases hH with ⟨rfl, q, p, hq, hp, rfl, rfl, hk, rfl, rfl⟩ | ⟨rfl, hb, rfl⟩ | ⟨rfl, ⟨hy, hk⟩, rfl⟩
  · have hq9 : q < 100000 := Nat.lt_trans hq (h.wrM hn).2
    exact ⟨_, _, fun R l9 => c5_book_ok hq9 hp ((keeps_iff h hn9).mp hk) l9, hG.thr, fun _ => (h.thr (v := 0)).row (by decide) (by decide) (by omega), h.bad⟩
  · exact ⟨0, _, fun R l9 => c5_book_bad x y (gi_f gi_p hb) l9, hG.thr, fun q => absurd q (by decide), h.bad⟩
  · exact ⟨0, _, fun R l9 => c5_book_two x y (gi_p.mpr hy) (fun q => by rw [(keeps_iff h hn9).mpr q] at hk; exact absurd hk (by decide)) l9, hG.thr, fun q => absurd q (by decide), h.bad⟩
