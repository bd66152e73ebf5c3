/-! a group is called -/
def gi (N : dM) (g k : Nat) : Nat := if N (28 + g) 2 = 1 then (grS N g + k) % grN N g else k
def cgL (c g : Nat) : Nat → Nat → dM → Int32 → Int32 → dM × Int32 × Int32
  | 0, _, N, m, b => (N, m, b)
  | n + 1, k, N, m, b =>
    if f_will N c (mb N g (gi N g k)) = true then
      (if f_free N c (mb N g (gi N g k)) < 0 then cgL c g n (k + 1) N 1 b
       else if N (28 + g) 2 = 3 then cgL c g n (k + 1) (g_ring (f_take N c (mb N g (gi N g k))) c (mb N g (gi N g k)) (f_free N c (mb N g (gi N g k)))) m (nI (gi N g k))
       else if b < 0 ∨ (N (28 + g) 2 = 2 ∧ N (mb N g (gi N g k)) 11 < N (mb N g b.toNatClampNeg) 11) then cgL c g n (k + 1) N m (nI (gi N g k))
       else cgL c g n (k + 1) N m b)
    else cgL c g n (k + 1) N m b
def g_cgEnd (N : dM) (c g : Nat) (m b : Int32) : dM :=
  if b < 0 then (if m = 0 then g_busy N c else g_busy (up2 N 39 6 (N 39 6 + 1)) c)
  else if up2 N (28 + g) 3 b (28 + g) 2 = 3 then up2 N (28 + g) 3 b
  else g_ring (f_take (up2 N (28 + g) 3 b) c (mb (up2 N (28 + g) 3 b) g b.toNatClampNeg)) c (mb (up2 N (28 + g) 3 b) g b.toNatClampNeg) (f_free (up2 N (28 + g) 3 b) c (mb (up2 N (28 + g) 3 b) g b.toNatClampNeg))
def g_callGroup (N : dM) (c g : Nat) : dM := g_cgEnd (cgL c g (grN N g) 0 N 0 (-1)).1 c g (cgL c g (grN N g) 0 N 0 (-1)).2.1 (cgL c g (grN N g) 0 N 0 (-1)).2.2
theorem will_eq {c l : Nat} {M N : dM} (h : Rx c M N) (hl : l < 24) : f_will N c l = f_will M c l := by
  unfold f_will
  by_cases e : l = c
  · simp [e]
  · obtain ⟨hL, -⟩ := h.1 l hl e
    rw [hL.1, hL.2.2.2.2.2.2.2.1]
theorem mb_eq {c g i : Nat} {M N : dM} (h : Rx c M N) (hg : g < 4) : mb N g i = mb M g i := by
  unfold mb
  rw [h.2.2.1 (32 + g) i (by omega) (by omega) (by omega)]
theorem grN_eq {c g : Nat} {M N : dM} (h : Rx c M N) (hg : g < 4) : grN N g = grN M g := by
  unfold grN
  rw [h.2.2.1 (28 + g) 1 (by omega) (by omega) (by omega)]
theorem ord_eq {c g : Nat} {M N : dM} (h : Rx c M N) (hg : g < 4) : N (28 + g) 2 = M (28 + g) 2 := (h.2.2.1 (28 + g) 2 (by omega) (by omega) (by omega)).symm
theorem ord_ring {M : dM} {c m g : Nat} (hc : c < 24) (hm : m < 24) (hg : g < 4) : f_ring M c m (28 + g) = M (28 + g) := funext (fun j => f_ring_r (by omega) (by omega) (by omega))
theorem g_ring_c {N : dM} {c l : Nat} {s : Int32} (hc : c < 24) : g_ring N c l s c 1 = 3 := by
  unfold g_ring
  split
  · assumption
  · rw [becS_s hc (by decide)]; rfl
theorem Rx.ring3 {c : Nat} {M N : dM} {t : Int32} (h : Rx c M N) (hc : c < 24) (h3 : N c 1 = 3) (ht : t = M 39 5) : Rx 24 (f_enter M c 3 t) N := by
  subst ht
  refine h.close hc EX.enter EX.rfl ?_
  obtain ⟨⟨w1, w2, w3, w4, w5⟩, w6, w7, w8, w9, w10, w11, w12, w13⟩ := h.2.1 hc
  obtain ⟨w14, w15⟩ := w13 h3
  have et : M 39 5 = N 39 5 := h.2.2.2.2.1
  unfold LR CL
  simp only [f_enter_s]
  simp [w1, w2, w3, w4, w5, w6, w7, w14, w15, h3, et]
theorem will_of {M : dM} {c l : Nat} (h : f_will M c l = true) : l ≠ c ∧ M l 1 = 0 := ⟨(of_decide_eq_true h).1, (of_decide_eq_true h).2.1⟩
/-- all ring at once -/
theorem all_eq {c g : Nat} (hc : c < 24) (hg : g < 4) : ∀ (n i : Nat) (M N : dM) (r m b : Int32), i + n ≤ 6 → (∀ k, k < i + n → mb M g k < 24) → M (28 + g) 2 = 3 → Rx c M N → Iv c M → (r = 0 ∧ b = -1) ∨ (r = 1 ∧ (∃ q, q < 6 ∧ b = nI q) ∧ N c 1 = 3) →
    Rx c (raL c g n i M r).1 (cgL c g n i N m b).1 ∧ Iv c (raL c g n i M r).1 ∧ (raL c g n i M r).1 (28 + g) 2 = 3 ∧
    ((r = 0 ∧ (raL c g n i M r).2 = 0 ∧ (cgL c g n i N m b).2.2 = -1 ∧ (raL c g n i M r).1 = M ∧ (cgL c g n i N m b).1 = N ∧ ((cgL c g n i N m b).2.1 = 0 ↔ m = 0 ∧ hwL M c g n i = false)) ∨
     ((raL c g n i M r).2 = 1 ∧ (∃ q, q < 6 ∧ (cgL c g n i N m b).2.2 = nI q) ∧ (cgL c g n i N m b).1 c 1 = 3))
  | 0, i, M, N, r, m, b, _, _, h3, h, hI, hh => by
    refine ⟨h, hI, h3, ?_⟩
    rcases hh with ⟨a1, a2⟩ | ⟨a1, a2, a3⟩
    · exact Or.inl ⟨a1, a1, a2, rfl, rfl, by simp [cgL, hwL]⟩
    · exact Or.inr ⟨a1, a2, a3⟩
  | n + 1, i, M, N, r, m, b, hn, hm, h3, h, hI, hh => by
    have ei : gi N g i = i := by rw [gi, if_neg (by rw [ord_eq h hg, h3]; decide)]
    have hl : mb M g i < 24 := hm i (by omega)
    rw [raL, cgL, hwL, ei, mb_eq h hg, will_eq h hl]
    by_cases w : f_will M c (mb M g i) = true
    · obtain ⟨lc, l0⟩ := will_of w
      rw [if_pos w, if_pos w, if_pos w, h.2.2.free hc hl]
      by_cases hf : f_free M c (mb M g i) = -1
      · have hf2 := (free_lt0 M c (mb M g i)).mpr hf
        rw [if_pos hf, if_pos hf2, f_ring_none hf]
        obtain ⟨a1, a2, a3, a4⟩ := all_eq hc hg n (i + 1) M N r 1 b (by omega) (fun k hk => hm k (by omega)) h3 h hI hh
        refine ⟨a1, a2, a3, ?_⟩
        rcases a4 with ⟨b0, b1, b2, b3, b4, b5⟩ | a4
        · exact Or.inl ⟨b0, b1, b2, b3, b4, by
            rw [b5]
            exact ⟨fun q => absurd q.1 (by decide), fun q => absurd q.2 (by decide)⟩⟩
        · exact Or.inr a4
      · have hf2 : ¬ f_free M c (mb M g i) < 0 := fun q => hf ((free_lt0 M c (mb M g i)).mp q)
        have o3 : N (28 + g) 2 = 3 := by rw [ord_eq h hg]; exact h3
        rw [if_neg hf, if_neg hf2, if_pos o3]
        have hr := h.ring hc hl lc l0 hf
        rw [h.2.2.free hc hl] at hr
        obtain ⟨a1, a2, a3, a4⟩ := all_eq hc hg n (i + 1) (f_ring M c (mb M g i)) (g_ring (f_take N c (mb M g i)) c (mb M g i) (f_free M c (mb M g i))) 1 m (nI i) (by omega) (fun k hk => by rw [mb_ring hc hl hg]; exact hm k (by omega)) (by rw [ord_ring hc hl hg]; exact h3) hr (hI.ring hc hl lc l0) (Or.inr ⟨rfl, ⟨i, by omega, rfl⟩, g_ring_c hc⟩)
        refine ⟨a1, a2, a3, Or.inr ?_⟩
        rcases a4 with ⟨b0, -⟩ | a4
        · exact absurd b0 (by decide)
        · exact a4
    · rw [if_neg w, if_neg w, if_neg w]
      exact all_eq hc hg n (i + 1) M N r m b (by omega) (fun k hk => hm k (by omega)) h3 h hI hh
/-- one of them: none is rung before the row is through -/
theorem one_mem {c g : Nat} : ∀ (n k : Nat) (N : dM) (m b : Int32), ¬ N (28 + g) 2 = 3 → (cgL c g n k N m b).1 = N
  | 0, _, _, _, _, _ => rfl
  | n + 1, k, N, m, b, h3 => by
    rw [cgL]
    split
    · split
      · exact one_mem n (k + 1) N 1 b h3
      · split
        · exact one_mem n (k + 1) N m _ h3
        · exact one_mem n (k + 1) N m b h3
    · exact one_mem n (k + 1) N m b h3
theorem one_missed {c g : Nat} : ∀ (n k : Nat) (N : dM) (m b : Int32), ¬ N (28 + g) 2 = 3 → ((cgL c g n k N m b).2.1 = 0 ↔ m = 0 ∧ ∀ j, k ≤ j → j < k + n → f_will N c (mb N g (gi N g j)) = true → ¬ f_free N c (mb N g (gi N g j)) < 0)
  | 0, k, _, m, _, _ => by
    rw [cgL]
    exact ⟨fun h => ⟨h, fun j a b => absurd a (by omega)⟩, fun h => h.1⟩
  | n + 1, k, N, m, b, h3 => by
    have step : ∀ (P : Nat → Prop), P k → ((∀ j, k ≤ j → j < k + (n + 1) → P j) ↔ ∀ j, k + 1 ≤ j → j < k + 1 + n → P j) := fun P hk => ⟨fun h j a b => h j (by omega) (by omega), fun h j a b => by
      by_cases e : j = k
      · subst e; exact hk
      · exact h j (by omega) (by omega)⟩
    rw [cgL]
    by_cases w : f_will N c (mb N g (gi N g k)) = true
    · rw [if_pos w]
      by_cases hf : f_free N c (mb N g (gi N g k)) < 0
      · rw [if_pos hf, one_missed n (k + 1) N 1 b h3]
        exact ⟨fun q => absurd q.1 (by decide), fun q => absurd hf (q.2 k (Nat.le_refl _) (by omega) w)⟩
      · rw [if_neg hf, if_neg h3, step (fun j => f_will N c (mb N g (gi N g j)) = true → ¬ f_free N c (mb N g (gi N g j)) < 0) (fun _ => hf)]
        split
        · exact one_missed n (k + 1) N m _ h3
        · exact one_missed n (k + 1) N m b h3
    · rw [if_neg w, step (fun j => f_will N c (mb N g (gi N g j)) = true → ¬ f_free N c (mb N g (gi N g j)) < 0) (fun q => absurd q w)]
      exact one_missed n (k + 1) N m b h3
theorem hwL_false {M : dM} {c g : Nat} : ∀ (n i : Nat), hwL M c g n i = false ↔ ∀ j, i ≤ j → j < i + n → ¬ f_will M c (mb M g j) = true
  | 0, i => by rw [hwL]; exact ⟨fun _ j a b => absurd a (by omega), fun _ => rfl⟩
  | n + 1, i => by
    rw [hwL]
    by_cases w : f_will M c (mb M g i) = true
    · rw [if_pos w]
      exact ⟨fun q => absurd q (by decide), fun q => absurd w (q i (Nat.le_refl _) (by omega))⟩
    · rw [if_neg w, hwL_false n (i + 1)]
      exact ⟨fun h j a b => by
        by_cases e : j = i
        · subst e; exact w
        · exact h j (by omega) (by omega), fun h j a b => h j (by omega) (by omega)⟩
theorem can_iff {M : dM} {c l : Nat} : f_can M c l = true ↔ f_will M c l = true ∧ ¬ f_free M c l < 0 := by
  unfold f_can
  rw [Bool.and_eq_true, decide_eq_true_iff, free_lt0]
/-- the first that can be taken -/
theorem first_best {c g S : Nat} {N : dM} (h2 : ¬ N (28 + g) 2 = 2) (h3 : ¬ N (28 + g) 2 = 3) (hS : ∀ k, k < grN N g → gi N g k = (S + k) % grN N g) : ∀ (n k : Nat) (m b : Int32), k + n = grN N g → (b = -1 → (cgL c g n k N m b).2.2 = ftL N c g (grN N g) S n k) ∧ (¬ b < 0 → (cgL c g n k N m b).2.2 = b)
  | 0, _, _, _, _ => ⟨fun q => by rw [cgL, ftL]; exact q, fun _ => rfl⟩
  | n + 1, k, m, b, e => by
    have ih := first_best (c := c) h2 h3 hS n (k + 1)
    rw [cgL, ftL, ← hS k (by omega)]
    by_cases w : f_will N c (mb N g (gi N g k)) = true
    · rw [if_pos w]
      by_cases hf : f_free N c (mb N g (gi N g k)) < 0
      · have c1 : ¬ f_can N c (mb N g (gi N g k)) = true := fun q => (can_iff.mp q).2 hf
        rw [if_pos hf, if_neg c1]
        exact ih 1 b (by omega)
      · have c1 : f_can N c (mb N g (gi N g k)) = true := can_iff.mpr ⟨w, hf⟩
        rw [if_neg hf, if_neg h3, if_pos c1]
        by_cases hb : b < 0
        · rw [if_pos (Or.inl hb)]
          have hk : gi N g k < grN N g := by rw [hS k (by omega)]; exact Nat.mod_lt _ (by omega)
          by_cases h31 : gi N g k < 2 ^ 31
          · exact ⟨fun _ => (ih m (nI (gi N g k)) (by omega)).2 (nI_pos h31), fun q => absurd hb q⟩
          · exfalso
            have : grN N g < 2 ^ 31 := Int32.toNatClampNeg_lt _
            omega
        · have c2 : ¬ (b < 0 ∨ (N (28 + g) 2 = 2 ∧ N (mb N g (gi N g k)) 11 < N (mb N g b.toNatClampNeg) 11)) := fun q => q.elim hb (fun p => h2 p.1)
          rw [if_neg c2]
          exact ⟨fun q => absurd (by rw [q]; decide) hb, (ih m b (by omega)).2⟩
    · have c1 : ¬ f_can N c (mb N g (gi N g k)) = true := fun q => w (can_iff.mp q).1
      rw [if_neg w, if_neg c1]
      exact ih m b (by omega)
theorem one_none {c g : Nat} : ∀ (n k : Nat) (N : dM) (m b : Int32), ¬ N (28 + g) 2 = 3 → (∀ j, j < k + n → gi N g j < 2 ^ 31) → (cgL c g n k N m b).2.2 < 0 → b < 0 ∧ ∀ j, k ≤ j → j < k + n → f_will N c (mb N g (gi N g j)) = true → f_free N c (mb N g (gi N g j)) < 0
  | 0, k, _, _, _, _, _, h => ⟨h, fun j a b => absurd a (by omega)⟩
  | n + 1, k, N, m, b, h3, hg, h => by
    have step : ∀ (P : Nat → Prop), P k → (∀ j, k + 1 ≤ j → j < k + 1 + n → P j) → ∀ j, k ≤ j → j < k + (n + 1) → P j := fun P hk h j a b => by
      by_cases e : j = k
      · subst e; exact hk
      · exact h j (by omega) (by omega)
    have ih := fun m b => one_none (c := c) n (k + 1) N m b h3 (fun j hj => hg j (by omega))
    rw [cgL] at h
    by_cases w : f_will N c (mb N g (gi N g k)) = true
    · rw [if_pos w] at h
      by_cases hf : f_free N c (mb N g (gi N g k)) < 0
      · rw [if_pos hf] at h
        exact ⟨(ih 1 b h).1, step _ (fun _ => hf) (ih 1 b h).2⟩
      · rw [if_neg hf, if_neg h3] at h
        exfalso
        split at h
        · exact nI_pos (hg k (by omega)) (ih m _ h).1
        · next q => exact q (Or.inl (ih m b h).1)
    · rw [if_neg w] at h
      exact ⟨(ih m b h).1, step _ (fun q => absurd q w) (ih m b h).2⟩
theorem rot : ∀ n, n < 7 → ∀ s, s < 7 → ∀ i, i < n → ∃ k, k < n ∧ (s + k) % n = i := by decide
theorem can_eq {c l : Nat} {M N : dM} (h : Rx c M N) (hc : c < 24) (hl : l < 24) : f_can N c l = f_can M c l := by
  unfold f_can
  rw [will_eq h hl, h.2.2.free hc hl]
theorem ftL_eq {c g n0 S : Nat} {M N : dM} (h : Rx c M N) (hc : c < 24) (hg : g < 4) (hm : ∀ k, k < n0 → mb M g k < 24) : ∀ (n k : Nat), k + n = n0 → ftL N c g n0 S n k = ftL M c g n0 S n k
  | 0, _, _ => rfl
  | n + 1, k, e => by
    rw [ftL, ftL, mb_eq h hg, can_eq h hc (hm _ (Nat.mod_lt _ (by omega))), ftL_eq h hc hg hm n (k + 1) (by omega)]
theorem long_best {c g : Nat} {M N : dM} (h : Rx c M N) (hI : Iv 24 M) (ht : M 39 5 < 2147483647) (hc : c < 24) (hg : g < 4) (h2 : N (28 + g) 2 = 2) (h6 : grN M g ≤ 6) (hm : ∀ k, k < grN M g → mb M g k < 24) : ∀ (n k : Nat) (m b s : Int32), k + n = grN M g →
    ((b = -1 ∧ s = 2147483647) ∨ ∃ q, q < grN M g ∧ b = nI q ∧ s = M (mb M g q) 2 ∧ mb M g q ≠ c ∧ M (mb M g q) 1 = 0) → (cgL c g n k N m b).2.2 = liL M c g n k b s
  | 0, _, _, _, _, _, _ => rfl
  | n + 1, k, m, b, s, e, hh => by
    have ih := fun m => long_best h hI ht hc hg h2 h6 hm n (k + 1) m
    have ei : gi N g k = k := by rw [gi, if_neg (by rw [h2]; decide)]
    have hl : mb M g k < 24 := hm k (by omega)
    rw [cgL, liL, ei, mb_eq h hg, will_eq h hl, h.2.2.free hc hl]
    by_cases w : f_will M c (mb M g k) = true
    · obtain ⟨lc, l0⟩ := will_of w
      rw [if_pos w]
      by_cases hf : f_free M c (mb M g k) < 0
      · have c1 : ¬ (M (mb M g k) 2 < s ∧ f_can M c (mb M g k) = true) := fun q => (can_iff.mp q.2).2 hf
        rw [if_pos hf, if_neg c1]
        exact ih 1 b s (by omega) hh
      · have c0 : f_can M c (mb M g k) = true := can_iff.mpr ⟨w, hf⟩
        have c3 : ¬ N (28 + g) 2 = 3 := by rw [h2]; decide
        have e2 : M (mb M g k) 2 = N (mb M g k) 11 := (h.1 _ hl lc).1.2.2.2.2.2.2.2.2.2.1 l0
        have hb := hI.2.2.2.2.2.2 _ hl
        have h9 : M (mb M g k) 2 < 2147483647 := Int32.lt_iff_toInt_lt.mpr (by have := Int32.lt_iff_toInt_lt.mp ht; omega)
        rw [if_neg hf, if_neg c3]
        rcases hh with ⟨rfl, rfl⟩ | ⟨q, hq, rfl, rfl, qc, q0⟩
        · rw [if_pos (Or.inl (by decide)), if_pos ⟨h9, c0⟩]
          exact ih m _ _ (by omega) (Or.inr ⟨k, by omega, rfl, rfl, lc, l0⟩)
        · have e2q : M (mb M g q) 2 = N (mb M g q) 11 := (h.1 _ (hm q hq) qc).1.2.2.2.2.2.2.2.2.2.1 q0
          rw [nI_clamp (by omega), mb_eq h hg, ← e2, ← e2q]
          by_cases hlt : M (mb M g k) 2 < M (mb M g q) 2
          · rw [if_pos (Or.inr ⟨h2, hlt⟩), if_pos ⟨hlt, c0⟩]
            exact ih m _ _ (by omega) (Or.inr ⟨k, by omega, rfl, rfl, lc, l0⟩)
          · have c2 : ¬ (nI q < 0 ∨ (N (28 + g) 2 = 2 ∧ M (mb M g k) 2 < M (mb M g q) 2)) := fun p => p.elim (nI_pos (by omega)) (fun p => hlt p.2)
            rw [if_neg c2, if_neg (fun p => hlt p.1)]
            exact ih m _ _ (by omega) (Or.inr ⟨q, hq, rfl, rfl, qc, q0⟩)
    · have c1 : ¬ (M (mb M g k) 2 < s ∧ f_can M c (mb M g k) = true) := fun q => w (can_iff.mp q.2).1
      rw [if_neg w, if_neg c1]
      exact ih m b s (by omega) hh
theorem last_row {M : dM} {g r : Nat} {v : Int32} (h : r < 28 ∨ 32 ≤ r) (hg : g < 4) : up2 M (28 + g) 3 v r = M r := funext (fun j => up2_r (by omega))
theorem Rx.lastN {x g : Nat} {M N : dM} {v : Int32} (h : Rx x M N) (hg : g < 4) (o3 : M (28 + g) 2 = 3) : Rx x M (up2 N (28 + g) 3 v) := by
  obtain ⟨h1, h2, a1, a2, a3, a4⟩ := h
  refine ⟨fun l a9 b9 => ?_, fun a9 => ?_, fun r j a b c => ?_, fun q hq ho => ?_, ?_, ?_⟩
  · rw [last_row (by omega) hg]; exact h1 l a9 b9
  · rw [last_row (by omega) hg, last_row (by omega) hg]; exact h2 a9
  · by_cases e : r = 28 + g
    · rw [up2_j (by omega)]; exact a1 r j a b c
    · rw [up2_r e]; exact a1 r j a b c
  · by_cases e : q = g
    · subst e; exact absurd o3 ho
    · rw [up2_r (by omega)]; exact a2 q hq ho
  · rw [last_row (by omega) hg]; exact a3
  · rw [last_row (by omega) hg]; exact a4
theorem Rx.last {x g : Nat} {M N : dM} {v : Int32} (h : Rx x M N) (hg : g < 4) : Rx x (up2 M (28 + g) 3 v) (up2 N (28 + g) 3 v) := by
  obtain ⟨h1, h2, a1, a2, a3, a4⟩ := h
  refine ⟨fun l a9 b9 => ?_, fun a9 => ?_, fun r j a b c => ?_, fun q hq ho => ?_, ?_, ?_⟩
  · rw [last_row (by omega) hg, last_row (by omega) hg]; exact h1 l a9 b9
  · rw [last_row (by omega) hg, last_row (by omega) hg, last_row (by omega) hg]; exact h2 a9
  · unfold up2
    split
    · rfl
    · exact a1 r j a b c
  · rw [up2_j (by decide)] at ho
    unfold up2
    split
    · rfl
    · exact a2 q hq ho
  · rw [last_row (by omega) hg, last_row (by omega) hg]; exact a3
  · rw [last_row (by omega) hg, last_row (by omega) hg]; exact a4
theorem callGroup_eq {c g : Nat} {M N : dM} (h : Rx c M N) (hI : Iv 24 M) (hS : Sf M) (ht : M 39 5 < 2147483647) (hcs : M c 1 = 2 ∨ M c 1 = 5) (hc : c < 24) (hg : g < 4) : Rx 24 (f_callGroup M c g) (g_callGroup N c g) ∧ Iv 24 (f_callGroup M c g) := by
  have ndc := nd_cs hI hc hcs
  have hw := h.2.1 hc
  have hI' := hI.ex0 ndc hw.2.2.2.2.1 hw.2.2.2.2.2.1
  obtain ⟨eN, h6, hmem, eS, hS6⟩ := hS.2.2 g hg
  have hm : ∀ k, k < grN M g → mb M g k < 24 := fun k hk => (hmem k hk).2
  unfold g_callGroup
  rw [grN_eq h hg]
  by_cases o3 : M (28 + g) 2 = 3
  · obtain ⟨a1, a2, a3, a4⟩ := all_eq hc hg (grN M g) 0 M N 0 0 (-1) (by omega) (fun k hk => hm k (by omega)) o3 h hI' (Or.inl ⟨rfl, rfl⟩)
    have eA : cgA M c g = (raL c g (grN M g) 0 M 0).2 := by rw [cgA, if_pos o3]
    have eM : cgM M c g = (raL c g (grN M g) 0 M 0).1 := by rw [cgM, if_pos o3]
    unfold f_callGroup g_cgEnd
    rw [eA, eM]
    rcases a4 with ⟨-, b1, b2, b3, b4, b5⟩ | ⟨b1, ⟨q, hq, b2⟩, b3⟩
    · rw [if_pos b1, b3, b2, b4, if_pos (by decide : (-1 : Int32) < 0)]
      by_cases hh : hwL M c g (grN M g) 0 = true
      · have c1 : ¬ (cgL c g (grN M g) 0 N 0 (-1)).2.1 = 0 := fun p => by have := (b5.mp p).2; rw [hh] at this; cases this
        rw [if_pos hh, if_neg c1]
        exact ⟨h.blocked hc, hI.block hc ndc⟩
      · rw [if_neg hh, if_pos (b5.mpr ⟨rfl, Bool.eq_false_iff.mpr hh⟩)]
        exact ⟨h.busy hc rfl, hI.enter hc ndc (by decide) (by decide) rfl⟩
    · rw [if_neg (by rw [b1]; decide), b2, if_neg (nI_pos (by omega))]
      have o3' : up2 (cgL c g (grN M g) 0 N 0 (-1)).1 (28 + g) 3 (nI q) (28 + g) 2 = 3 := by rw [up2_j (by decide), ord_eq a1 hg]; exact a3
      rw [if_pos o3']
      exact ⟨(a1.lastN hg a3).ring3 hc (by rw [last_row (by omega) hg]; exact b3) rfl, a2.close3 hc rfl⟩
  · have o3n : ¬ N (28 + g) 2 = 3 := by rw [ord_eq h hg]; exact o3
    have eS' : grS N g = grS M g := by unfold grS; rw [h.2.2.2.1 g hg o3]
    have egi : ∀ k, k < grN N g → gi N g k = ((if N (28 + g) 2 = 1 then grS N g else 0) + k) % grN N g := fun k hk => by
      unfold gi
      split
      · rfl
      · rw [Nat.zero_add, Nat.mod_eq_of_lt hk]
    have gb : ∀ j, j < grN N g → gi N g j < grN N g := fun j hj => by rw [egi j hj]; exact Nat.mod_lt _ (by omega)
    have eb : (cgL c g (grN M g) 0 N 0 (-1)).2.2 = f_at M c g := by
      unfold f_at
      by_cases o2 : M (28 + g) 2 = 2
      · rw [if_pos o2]
        exact long_best h hI ht hc hg (by rw [ord_eq h hg]; exact o2) h6 hm (grN M g) 0 0 (-1) 2147483647 (by omega) (Or.inl ⟨rfl, rfl⟩)
      · rw [if_neg o2]
        have := (first_best (c := c) (by rw [ord_eq h hg]; exact o2) o3n egi (grN N g) 0 0 (-1) (by omega)).1 rfl
        rw [grN_eq h hg, ftL_eq h hc hg hm (grN M g) 0 (by omega), ord_eq h hg, eS'] at this
        exact this
    rw [one_mem (grN M g) 0 N 0 (-1) o3n, eb]
    have eA : cgA M c g = f_ringOneA M c g := by rw [cgA, if_neg o3]
    have eM : cgM M c g = f_ringOne M c g := by rw [cgM, if_neg o3]
    unfold f_callGroup g_cgEnd
    rw [eA, eM]
    rcases f_at_cases M c g with q | ⟨q, hq, eq, hcan⟩
    · have e0 : f_ringOneA M c g = 0 := by rw [f_ringOneA, if_pos q]
      have e1 : f_ringOne M c g = M := by rw [f_ringOne, if_pos q]
      rw [e0, e1, if_pos rfl, q, if_pos (by decide : (-1 : Int32) < 0)]
      have hno := (one_none (c := c) (grN M g) 0 N 0 (-1) o3n (fun j hj => by have := gb j (by rw [grN_eq h hg]; omega); rw [grN_eq h hg] at this; omega) (by rw [eb, q]; decide)).2
      have hmi := one_missed (c := c) (grN M g) 0 N 0 (-1) o3n
      have hiff : (cgL c g (grN M g) 0 N 0 (-1)).2.1 = 0 ↔ hwL M c g (grN M g) 0 = false := by
        rw [hmi, hwL_false]
        refine ⟨fun p i _ hi wi => ?_, fun p => ⟨rfl, fun j j0 hj wj => ?_⟩⟩
        · have hi' : i < grN M g := by omega
          have : ∃ k, k < grN M g ∧ gi N g k = i := by
            by_cases o1 : N (28 + g) 2 = 1
            · obtain ⟨k, hk, ek⟩ := rot (grN M g) (by omega) (grS M g) (by omega) i hi'
              exact ⟨k, hk, by rw [gi, if_pos o1, eS', grN_eq h hg]; exact ek⟩
            · exact ⟨i, hi', by rw [gi, if_neg o1]⟩
          obtain ⟨k, hk, ek⟩ := this
          have wi' : f_will N c (mb N g (gi N g k)) = true := by rw [ek, mb_eq h hg, will_eq h (hm i hi')]; exact wi
          exact p.2 k (by omega) (by omega) wi' (hno k (by omega) (by omega) wi')
        · exfalso
          have hgj : gi N g j < grN M g := by have := gb j (by rw [grN_eq h hg]; omega); rw [grN_eq h hg] at this; exact this
          rw [mb_eq h hg, will_eq h (hm _ hgj)] at wj
          exact p (gi N g j) (by omega) (by omega) wj
      by_cases hh : hwL M c g (grN M g) 0 = true
      · have c1 : ¬ (cgL c g (grN M g) 0 N 0 (-1)).2.1 = 0 := fun p => by have := hiff.mp p; rw [hh] at this; cases this
        rw [if_pos hh, if_neg c1]
        exact ⟨h.blocked hc, hI.block hc ndc⟩
      · rw [if_neg hh, if_pos (hiff.mpr (Bool.eq_false_iff.mpr hh))]
        exact ⟨h.busy hc rfl, hI.enter hc ndc (by decide) (by decide) rfl⟩
    · obtain ⟨hwill, hfree⟩ := can_iff.mp hcan
      obtain ⟨lc, l0⟩ := will_of hwill
      have hl := hm q hq
      have hM1 : f_ro1 M c g = up2 M (28 + g) 3 (nI q) := by rw [f_ro1, eq]
      have hrm : f_rom M c g = mb M g q := by rw [f_rom, eq, nI_clamp (by omega)]
      have hat : ¬ f_at M c g = -1 := by rw [eq]; exact nI_m1 q (by omega)
      have ef : f_free (up2 M (28 + g) 3 (nI q)) c (mb M g q) = f_free M c (mb M g q) := by
        unfold f_free
        rw [last_row (by omega) hg, last_row (by omega) hg]
      have hf : ¬ f_free M c (mb M g q) = -1 := fun p => hfree ((free_lt0 M c (mb M g q)).mpr p)
      have e0 : f_ringOneA M c g = 1 := by rw [f_ringOneA, if_neg hat, hM1, hrm, ef, decide_eq_true hf]; rfl
      have e1 : f_ringOne M c g = f_ring (up2 M (28 + g) 3 (nI q)) c (mb M g q) := by rw [f_ringOne, if_neg hat, hM1, hrm]
      rw [e0, e1, if_neg (by decide : ¬ (1 : Int32) = 0), eq, if_neg (nI_pos (by omega)), nI_clamp (by omega)]
      have r0 := h.last (v := nI q) hg
      have o3' : ¬ up2 N (28 + g) 3 (nI q) (28 + g) 2 = 3 := by rw [up2_j (by decide)]; exact o3n
      have emb : mb (up2 N (28 + g) 3 (nI q)) g q = mb M g q := by
        unfold mb
        rw [up2_r (by omega), h.2.2.1 (32 + g) q (by omega) (by omega) (by omega)]
      rw [if_neg o3', emb]
      have hr := r0.ring hc hl lc (by rw [up2_r (by omega)]; exact l0) (by rw [ef]; exact hf)
      have hi : Iv c (up2 M (28 + g) 3 (nI q)) := hI'.same (fun r j hr => up2_r (by omega))
      exact ⟨hr.ring3 hc (g_ring_c hc) rfl, (hi.ring hc hl lc (by rw [up2_r (by omega)]; exact l0)).close3 hc rfl⟩
