/-! SIDE BY SIDE: the desk's rows and the model's -/
def EX (q : Nat) (M M' : dM) : Prop := ∀ r j, r ≠ q → M' r j = M r j
theorem EX.rfl {q : Nat} {M : dM} : EX q M M := fun _ _ _ => Eq.refl _
theorem EX.up {M : dM} {q j : Nat} {x : Int32} : EX q M (up2 M q j x) := fun r k h => up2_r h
theorem EX.trans {q : Nat} {A B C : dM} (h1 : EX q A B) (h2 : EX q B C) : EX q A C := fun r j h => (h2 r j h).trans (h1 r j h)
theorem EX.enter {M : dM} {l : Nat} {s n : Int32} : EX l M (f_enter M l s n) := fun r j h => f_enter_r h
theorem EX.bec0 {N : dM} {l : Nat} {s : Int32} : EX l N (g_bec0 N l s) := (EX.up.trans EX.up).trans EX.up
theorem EX.bec {N : dM} {l : Nat} {s : Int32} : EX l N (g_bec N l s) := by
  unfold g_bec
  split
  · exact ((EX.bec0.trans EX.up).trans EX.up).trans EX.up
  · exact EX.bec0
theorem EX.busy {N : dM} {l : Nat} : EX l N (g_busy N l) := (EX.bec.trans EX.up).trans EX.up
theorem bec0_s {N : dM} {l : Nat} {s : Int32} (hl : l < 24) (j : Nat) : g_bec0 N l s l j = if j = 5 then -1 else if j = 2 then N 39 5 else if j = 1 then s else N l j := by
  have h39 : up2 N l 1 s 39 5 = N 39 5 := up2_r (by omega)
  unfold g_bec0
  rw [h39]
  simp only [up2, true_and]
theorem bec0_39 {N : dM} {l : Nat} {s : Int32} (hl : l < 24) (j : Nat) : g_bec0 N l s 39 j = N 39 j := EX.bec0 39 j (by omega)
theorem becI_s {N : dM} {l : Nat} (hl : l < 24) (j : Nat) : g_bec N l 0 l j = if j = 4 then -1 else if j = 3 then -1 else if j = 11 then N 39 5 else if j = 5 then -1 else if j = 2 then N 39 5 else if j = 1 then 0 else N l j := by
  have : g_bec N l 0 = up2 (up2 (up2 (g_bec0 N l 0) l 11 (N 39 5)) l 3 (-1)) l 4 (-1) := by rw [g_bec, if_pos rfl, bec0_39 hl]
  rw [this]
  simp only [up2, true_and, bec0_s hl]
theorem becS_s {N : dM} {l : Nat} {s : Int32} (hl : l < 24) (h0 : ¬ s = 0) (j : Nat) : g_bec N l s l j = if j = 5 then -1 else if j = 2 then N 39 5 else if j = 1 then s else N l j := by
  rw [g_bec, if_neg h0, bec0_s hl]
theorem busy_s {N : dM} {l : Nat} (hl : l < 24) (j : Nat) : g_busy N l l j = if j = 4 then -1 else if j = 3 then -1 else if j = 5 then -1 else if j = 2 then N 39 5 else if j = 1 then 5 else N l j := by
  unfold g_busy
  simp only [up2, true_and, becS_s hl (by decide : ¬ (5 : Int32) = 0)]
def LR (m n : Nat → Int32) : Prop := m 1 = n 1 ∧ m 3 = n 3 ∧ m 4 = n 4 ∧ m 5 = n 5 ∧ m 6 = n 6 ∧ m 7 = n 7 ∧ m 8 = n 8 ∧ m 9 = n 9 ∧ m 10 = n 10 ∧ (m 1 = 0 → m 2 = n 11) ∧ (¬ m 1 = 0 → m 2 = n 2) ∧ (¬ m 7 = 0 → m 2 = n 13)
def CL (m : Nat → Int32) : Prop := (¬ m 1 = 4 → ¬ m 1 = 6 → ¬ m 1 = 7 → ¬ m 1 = 8 → m 3 = -1) ∧ (¬ m 1 = 4 → ¬ m 1 = 6 → m 4 = -1) ∧ (¬ m 1 = 5 → m 5 = -1) ∧ (¬ m 1 = 6 → m 7 = 0)
def KR (m n : Nat → Int32) : Prop := m 6 = n 6 ∧ m 8 = n 8 ∧ m 9 = n 9 ∧ m 10 = n 10 ∧ n 7 = 0
def CW (t : Int32) (m n : Nat → Int32) : Prop := KR m n ∧ n 3 = -1 ∧ n 4 = -1 ∧ ¬ m 1 = 0 ∧ ¬ m 1 = 4 ∧ ¬ m 1 = 6 ∧ ¬ n 1 = 0 ∧ ¬ n 1 = 4 ∧ (n 1 = 3 → n 2 = t ∧ n 5 = -1)
def RR (M N : dM) : Prop := (∀ r j, 24 ≤ r → r ≤ 38 → (r < 28 ∨ 32 ≤ r ∨ j ≠ 3) → M r j = N r j) ∧ (∀ g, g < 4 → ¬ M (28 + g) 2 = 3 → M (28 + g) 3 = N (28 + g) 3) ∧ M 39 5 = N 39 5 ∧ M 39 6 = N 39 6
def Rx (x : Nat) (M N : dM) : Prop := (∀ l, l < 24 → l ≠ x → LR (M l) (N l) ∧ CL (M l)) ∧ (x < 24 → CW (N 39 5) (M x) (N x)) ∧ RR M N
theorem LR.kr {m n : Nat → Int32} (h : LR m n) (h7 : m 7 = 0) : KR m n := by
  obtain ⟨h1, h3, h4, h5, h6, q7, h8, h9, h10, _⟩ := h
  exact ⟨h6, h8, h9, h10, by rw [← q7]; exact h7⟩
/-- the rows that a line enters -/
theorem LR_busy {M N : dM} {c : Nat} {t : Int32} (hc : c < 24) (h : KR (M c) (N c)) (ht : t = N 39 5) : LR (f_enter M c 5 t c) (g_busy N c c) ∧ CL (f_enter M c 5 t c) := by
  obtain ⟨h6, h8, h9, h10, h7⟩ := h
  subst ht
  unfold LR CL
  simp only [f_enter_s, busy_s hc]
  simp [h6, h7, h8, h9, h10]
theorem LR_idle {M N : dM} {c : Nat} {t : Int32} (hc : c < 24) (h : KR (M c) (N c)) (ht : t = N 39 5) : LR (f_enter M c 0 t c) (g_bec N c 0 c) ∧ CL (f_enter M c 0 t c) := by
  obtain ⟨h6, h8, h9, h10, h7⟩ := h
  subst ht
  unfold LR CL
  simp only [f_enter_s, becI_s hc]
  simp [h6, h7, h8, h9, h10]
theorem LR_to {M N : dM} {c : Nat} {t s : Int32} (hc : c < 24) (h : KR (M c) (N c)) (h3 : N c 3 = -1) (h4 : N c 4 = -1) (ht : t = N 39 5) (hs : ¬ s = 0) : LR (f_enter M c s t c) (g_bec N c s c) ∧ CL (f_enter M c s t c) := by
  obtain ⟨h6, h8, h9, h10, h7⟩ := h
  subst ht
  unfold LR CL
  simp only [f_enter_s, becS_s hc hs]
  simp [h6, h7, h8, h9, h10, h3, h4, hs]
theorem RR.ex {M N M' N' : dM} {q : Nat} (h : RR M N) (hq : q < 24) (e1 : EX q M M') (e2 : EX q N N') : RR M' N' := by
  obtain ⟨h1, h2, h3, h4⟩ := h
  refine ⟨fun r j a b c => ?_, fun g hg ho => ?_, ?_, ?_⟩
  · rw [e1 r j (by omega), e2 r j (by omega)]; exact h1 r j a b c
  · rw [e1 _ _ (by omega)] at ho
    rw [e1 _ _ (by omega), e2 _ _ (by omega)]; exact h2 g hg ho
  · rw [e1 _ _ (by omega), e2 _ _ (by omega)]; exact h3
  · rw [e1 _ _ (by omega), e2 _ _ (by omega)]; exact h4
theorem row_ex {M M' : dM} {q l : Nat} (e : EX q M M') (h : l ≠ q) : M' l = M l := funext (fun j => e l j h)
theorem Rx.row {x q : Nat} {M N M' N' : dM} (h : Rx x M N) (hq : q < 24) (e1 : EX q M M') (e2 : EX q N N') (hl : q ≠ x → LR (M' q) (N' q) ∧ CL (M' q)) (hx : q = x → CW (N 39 5) (M' q) (N' q)) : Rx x M' N' := by
  obtain ⟨h1, h2, h3⟩ := h
  refine ⟨fun l a b => ?_, fun a => ?_, h3.ex hq e1 e2⟩
  · by_cases c : l = q
    · subst c; exact hl b
    · rw [row_ex e1 c, row_ex e2 c]; exact h1 l a b
  · rw [e2 39 5 (by omega)]
    by_cases c : q = x
    · subst c; exact hx rfl
    · rw [row_ex e1 (Ne.symm c), row_ex e2 (Ne.symm c)]; exact h2 a
theorem Rx.close {c : Nat} {M N M' N' : dM} (h : Rx c M N) (hc : c < 24) (e1 : EX c M M') (e2 : EX c N N') (hl : LR (M' c) (N' c) ∧ CL (M' c)) : Rx 24 M' N' := by
  obtain ⟨h1, h2, h3⟩ := h
  refine ⟨fun l a b => ?_, fun a => absurd a (by omega), h3.ex hc e1 e2⟩
  by_cases e : l = c
  · subst e; exact hl
  · rw [row_ex e1 e, row_ex e2 e]; exact h1 l a e
theorem Rx.ex0 {c : Nat} {M N : dM} (h : Rx 24 M N) (hw : CW (N 39 5) (M c) (N c)) : Rx c M N := ⟨fun l a _ => h.1 l a (by omega), fun _ => hw, h.2.2⟩
theorem mark_at (M : dM) (a b t : Nat) (w : Int32) (r j : Nat) : f_mark M a b t w r j = if r = 24 + b / 6 ∧ j = t then w else if r = 24 + a / 6 ∧ j = t then w else M r j := Eq.refl _
theorem RR.mark {M N : dM} {a b t : Nat} {w : Int32} (h : RR M N) (ha : a < 24) (hb : b < 24) : RR (f_mark M a b t w) (f_mark N a b t w) := by
  obtain ⟨h1, h2, h3, h4⟩ := h
  refine ⟨fun r j a b c => ?_, fun g hg ho => ?_, ?_, ?_⟩
  · rw [mark_at, mark_at]
    split
    · rfl
    · split
      · rfl
      · exact h1 r j a b c
  · rw [f_mark_r (by omega) (by omega)] at ho
    rw [f_mark_r (by omega) (by omega), f_mark_r (by omega) (by omega)]; exact h2 g hg ho
  · rw [f_mark_r (by omega) (by omega), f_mark_r (by omega) (by omega)]; exact h3
  · rw [f_mark_r (by omega) (by omega), f_mark_r (by omega) (by omega)]; exact h4
theorem mark_row {M : dM} {a b t l : Nat} {w : Int32} (ha : a < 24) (hb : b < 24) (hl : l < 24 ∨ 28 ≤ l) : f_mark M a b t w l = M l := funext (fun j => f_mark_r (by omega) (by omega))
theorem Rx.mark {x : Nat} {M N : dM} {a b t : Nat} {w : Int32} (h : Rx x M N) (ha : a < 24) (hb : b < 24) : Rx x (f_mark M a b t w) (f_mark N a b t w) := by
  obtain ⟨h1, h2, h3⟩ := h
  refine ⟨fun l a9 b9 => ?_, fun a9 => ?_, h3.mark ha hb⟩
  · rw [mark_row ha hb (Or.inl a9), mark_row ha hb (Or.inl a9)]; exact h1 l a9 b9
  · rw [f_mark_r (by omega) (by omega), mark_row ha hb (Or.inl a9), mark_row ha hb (Or.inl a9)]; exact h2 a9
theorem RR.free {M N : dM} {a b : Nat} (h : RR M N) (ha : a < 24) (hb : b < 24) : f_free N a b = f_free M a b := by
  have e : ∀ u, u < 4 → N (24 + u) = M (24 + u) := fun u hu => funext (fun j => (h.1 (24 + u) j (by omega) (by omega) (by omega)).symm)
  unfold f_free
  rw [e _ (u6 ha), e _ (u6 hb)]
theorem Rx.take {x : Nat} {M N : dM} {a b : Nat} (h : Rx x M N) (ha : a < 24) (hb : b < 24) : Rx x (f_take M a b) (f_take N a b) := by
  unfold f_take
  rw [h.2.2.free ha hb]
  split
  · exact h
  · exact h.mark ha hb
theorem take_row {M : dM} {a b l : Nat} (ha : a < 24) (hb : b < 24) (hl : l < 24 ∨ 28 ≤ l) : f_take M a b l = M l := funext (fun j => f_take_r (by omega) (by omega))
theorem Rx.blk {x : Nat} {M N : dM} {v w : Int32} (h : Rx x M N) (e : v = w) : Rx x (up2 M 39 6 v) (up2 N 39 6 w) := by
  subst e
  obtain ⟨h1, h2, a1, a2, a3, a4⟩ := h
  have er : ∀ (M : dM) l, l ≠ 39 → up2 M 39 6 v l = M l := fun M l hl => funext (fun j => up2_r hl)
  have e5 : ∀ M : dM, up2 M 39 6 v 39 5 = M 39 5 := fun M => up2_j (by decide)
  refine ⟨fun l a9 b9 => ?_, fun a9 => ?_, fun r j a b c => ?_, fun g hg ho => ?_, ?_, ?_⟩
  · rw [er _ l (by omega), er _ l (by omega)]; exact h1 l a9 b9
  · rw [e5, er _ x (by omega), er _ x (by omega)]; exact h2 a9
  · rw [er _ r (by omega), er _ r (by omega)]; exact a1 r j a b c
  · rw [er _ _ (by omega)] at ho
    rw [er _ _ (by omega), er _ _ (by omega)]; exact a2 g hg ho
  · rw [e5, e5]; exact a3
  · rw [up2_s, up2_s]
/-! WHO POINTS TO WHOM, on the desk's side alone -/
def ND (q : Nat) (M : dM) : Prop := (∀ l, l < 24 → l ≠ q → M l 1 = 4 → ¬ M l 3 = nI q) ∧ (∀ l, l < 24 → l ≠ q → M l 1 = 6 → ¬ M l 3 = nI q) ∧ (∀ p, p < 4 → ¬ M 36 p = nI q) ∧ (∀ l, l < 24 → ¬ M l 10 = nI q)
def Bd (M : dM) : Prop := 0 ≤ (M 39 5).toInt ∧ ∀ l, l < 24 → -1 ≤ (M l 2).toInt ∧ (M l 2).toInt ≤ (M 39 5).toInt
def Iv (x : Nat) (M : dM) : Prop :=
  (∀ l, l < 24 → l ≠ x → M l 1 = 4 → ∃ o, o < 24 ∧ o ≠ l ∧ M l 3 = nI o ∧ (M o 1 = 3 ∨ o = x)) ∧
  (∀ l, l < 24 → l ≠ x → M l 1 = 6 → ∃ o, o < 24 ∧ o ≠ x ∧ o ≠ l ∧ M l 3 = nI o ∧ M o 1 = 6 ∧ M o 3 = nI l ∧ (M l 7 = 0 ↔ ¬ M o 7 = 0)) ∧
  (∀ p, p < 4 → ∀ l, l < 24 → M 36 p = nI l → l ≠ x ∧ M l 1 = 7 ∧ M l 3 = nI p) ∧
  (∀ l, l < 24 → ∀ c, c < 24 → M l 10 = nI c → c ≠ x ∧ M c 1 = 8 ∧ M c 3 = nI l) ∧ (x < 24 → ¬ M x 1 = 4 ∧ ¬ M x 1 = 6) ∧ Bd M
theorem ne_of_st {x a b : Int32} (h : x = a) (hab : a ≠ b) : ¬ x = b := fun q => hab (h.symm.trans q)
theorem Iv.nd {x q : Nat} {M : dM} (h : Iv x M) (hq : q < 24) (hx : q ≠ x) (h3 : ¬ M q 1 = 3) (h6 : ¬ M q 1 = 6) (h7 : ¬ M q 1 = 7) (h8 : ¬ M q 1 = 8) : ND q M := by
  obtain ⟨a1, a2, a3, a4, a5, a6⟩ := h
  refine ⟨fun l hl hlq e4 e => ?_, fun l hl hlq e6 e => ?_, fun p hp e => h7 (a3 p hp q hq e).2.1, fun l hl e => h8 (a4 l hl q hq e).2.1⟩
  · have hlx : l ≠ x := fun q9 => (a5 (q9 ▸ hl)).1 (q9 ▸ e4)
    obtain ⟨o, ho, -, eo, h9⟩ := a1 l hl hlx e4
    have : o = q := nI_eq24 ho hq (eo.symm.trans e)
    subst this
    rcases h9 with h9 | h9
    · exact h3 h9
    · exact hx h9
  · have hlx : l ≠ x := fun q9 => (a5 (q9 ▸ hl)).2 (q9 ▸ e6)
    obtain ⟨o, ho, -, -, eo, h9, -⟩ := a2 l hl hlx e6
    have : o = q := nI_eq24 ho hq (eo.symm.trans e)
    subst this
    exact h6 h9
/-- the rows that Iv reads: a change elsewhere is no change -/
theorem Iv.same {x : Nat} {M M' : dM} (h : Iv x M) (e : ∀ r j, r < 24 ∨ r = 36 ∨ (r = 39 ∧ j = 5) → M' r j = M r j) : Iv x M' := by
  have e1 : ∀ l, l < 24 → M' l = M l := fun l hl => funext (fun j => e l j (Or.inl hl))
  have e2 : M' 36 = M 36 := funext (fun j => e 36 j (by omega))
  have e3 : M' 39 5 = M 39 5 := e 39 5 (by omega)
  obtain ⟨a1, a2, a3, a4, a5, a6, a7⟩ := h
  refine ⟨fun l hl hx h4 => ?_, fun l hl hx h6 => ?_, fun p hp l hl h => ?_, fun l hl c hc h => ?_, fun hx => ?_, by rw [e3]; exact a6, fun l hl => by rw [e3, e1 l hl]; exact a7 l hl⟩
  · rw [e1 l hl] at h4 ⊢
    obtain ⟨o, ho, b1, b2, b3⟩ := a1 l hl hx h4
    exact ⟨o, ho, b1, b2, by rw [e1 o ho]; exact b3⟩
  · rw [e1 l hl] at h6 ⊢
    obtain ⟨o, ho, b1, b2, b3⟩ := a2 l hl hx h6
    exact ⟨o, ho, b1, b2, by rw [e1 o ho]; exact b3⟩
  · rw [e2] at h
    rw [e1 l hl]; exact a3 p hp l hl h
  · rw [e1 l hl] at h
    rw [e1 c hc]; exact a4 l hl c hc h
  · rw [e1 x hx]; exact a5 hx
theorem Iv.row {x q : Nat} {M M' : dM} (h : Iv x M) (hq : q < 24) (nd : ND q M) (e : ∀ r j, r < 24 ∨ r = 36 ∨ (r = 39 ∧ j = 5) → r ≠ q → M' r j = M r j) (e10 : M' q 10 = M q 10)
    (hs : q ≠ x → (M' q 1 = 4 → ∃ o, o < 24 ∧ o ≠ q ∧ M' q 3 = nI o ∧ (M o 1 = 3 ∨ o = x))) (h6 : ¬ M' q 1 = 6) (hx4 : q = x → ¬ M' q 1 = 4) (hb : -1 ≤ (M' q 2).toInt ∧ (M' q 2).toInt ≤ (M 39 5).toInt) : Iv x M' := by
  have e1 : ∀ l, l < 24 → l ≠ q → M' l = M l := fun l hl hn => funext (fun j => e l j (Or.inl hl) hn)
  have e2 : M' 36 = M 36 := funext (fun j => e 36 j (by omega) (by omega))
  have e3 : M' 39 5 = M 39 5 := e 39 5 (by omega) (by omega)
  have e4 : ∀ l, l < 24 → M' l 10 = M l 10 := fun l hl => by
    by_cases c : l = q
    · subst c; exact e10
    · rw [e1 l hl c]
  obtain ⟨a1, a2, a3, a4, a5, a6, a7⟩ := h
  obtain ⟨n1, n2, n3, n4⟩ := nd
  refine ⟨fun l hl hx h4 => ?_, fun l hl hx h6' => ?_, fun p hp l hl h => ?_, fun l hl c hc h => ?_, fun hx => ?_, by rw [e3]; exact a6, fun l hl => ?_⟩
  · by_cases c : l = q
    · subst c
      obtain ⟨o, ho, b1, b2, b3⟩ := hs hx h4
      exact ⟨o, ho, b1, b2, by rw [e1 o ho b1]; exact b3⟩
    · rw [e1 l hl c] at h4 ⊢
      obtain ⟨o, ho, b1, b2, b3⟩ := a1 l hl hx h4
      have : o ≠ q := fun q9 => n1 l hl c h4 (q9 ▸ b2)
      exact ⟨o, ho, b1, b2, by rw [e1 o ho this]; exact b3⟩
  · by_cases c : l = q
    · subst c; exact absurd h6' h6
    · rw [e1 l hl c] at h6' ⊢
      obtain ⟨o, ho, b0, b1, b2, b3⟩ := a2 l hl hx h6'
      have : o ≠ q := fun q9 => n2 l hl c h6' (q9 ▸ b2)
      exact ⟨o, ho, b0, b1, b2, by rw [e1 o ho this]; exact b3⟩
  · rw [e2] at h
    have : l ≠ q := fun q9 => n3 p hp (q9 ▸ h)
    rw [e1 l hl this]; exact a3 p hp l hl h
  · rw [e4 l hl] at h
    have : c ≠ q := fun q9 => n4 l hl (q9 ▸ h)
    rw [e1 c hc this]; exact a4 l hl c hc h
  · by_cases c : x = q
    · subst c; exact ⟨hx4 rfl, h6⟩
    · rw [e1 x hx c]; exact a5 hx
  · by_cases c : l = q
    · subst c; rw [e3]; exact hb
    · rw [e3, e1 l hl c]; exact a7 l hl
theorem Iv.ex0 {c : Nat} {M : dM} (h : Iv 24 M) (nd : ND c M) (h4 : ¬ M c 1 = 4) (h6 : ¬ M c 1 = 6) : Iv c M := by
  obtain ⟨a1, a2, a3, a4, a5, a6⟩ := h
  obtain ⟨n1, n2, n3, n4⟩ := nd
  refine ⟨fun l hl hx e4 => ?_, fun l hl hx e6 => ?_, fun p hp l hl e => ⟨fun q => n3 p hp (q ▸ e), (a3 p hp l hl e).2⟩, fun l hl q hq e => ⟨fun q9 => n4 l hl (q9 ▸ e), (a4 l hl q hq e).2⟩, fun _ => ⟨h4, h6⟩, a6⟩
  · obtain ⟨o, ho, b1, b2, b3⟩ := a1 l hl (by omega) e4
    exact ⟨o, ho, b1, b2, Or.inl (b3.resolve_right (by omega))⟩
  · obtain ⟨o, ho, b0, b1, b2, b3⟩ := a2 l hl (by omega) e6
    exact ⟨o, ho, fun q => n2 l hl hx e6 (q ▸ b2), b1, b2, b3⟩
theorem Iv.close {c : Nat} {M M' : dM} (h : Iv c M) (hc : c < 24) (e : ∀ r j, r < 24 ∨ r = 36 ∨ (r = 39 ∧ j = 5) → r ≠ c → M' r j = M r j) (e10 : M' c 10 = M c 10)
    (hs : M' c 1 = 3 ∨ ∀ l, l < 24 → l ≠ c → M l 1 = 4 → ¬ M l 3 = nI c) (h4 : ¬ M' c 1 = 4) (h6 : ¬ M' c 1 = 6) (hb : -1 ≤ (M' c 2).toInt ∧ (M' c 2).toInt ≤ (M 39 5).toInt) : Iv 24 M' := by
  have e1 : ∀ l, l < 24 → l ≠ c → M' l = M l := fun l hl hn => funext (fun j => e l j (Or.inl hl) hn)
  have e2 : M' 36 = M 36 := funext (fun j => e 36 j (by omega) (by omega))
  have e3 : M' 39 5 = M 39 5 := e 39 5 (by omega) (by omega)
  have e4 : ∀ l, l < 24 → M' l 10 = M l 10 := fun l hl => by
    by_cases q : l = c
    · subst q; exact e10
    · rw [e1 l hl q]
  obtain ⟨a1, a2, a3, a4, a5, a6, a7⟩ := h
  refine ⟨fun l hl hx h4' => ?_, fun l hl hx h6' => ?_, fun p hp l hl h => ?_, fun l hl q hq h => ?_, fun hx => absurd hx (by omega), by rw [e3]; exact a6, fun l hl => ?_⟩
  · by_cases q : l = c
    · subst q; exact absurd h4' h4
    · rw [e1 l hl q] at h4' ⊢
      obtain ⟨o, ho, b1, b2, b3⟩ := a1 l hl q h4'
      refine ⟨o, ho, b1, b2, Or.inl ?_⟩
      by_cases p : o = c
      · subst p
        rcases hs with hs | hs
        · exact hs
        · exact absurd b2 (hs l hl q h4')
      · rw [e1 o ho p]; exact b3.resolve_right p
  · by_cases q : l = c
    · subst q; exact absurd h6' h6
    · rw [e1 l hl q] at h6' ⊢
      obtain ⟨o, ho, b0, b1, b2, b3⟩ := a2 l hl q h6'
      exact ⟨o, ho, by omega, b1, b2, by rw [e1 o ho b0]; exact b3⟩
  · rw [e2] at h
    obtain ⟨b0, b1⟩ := a3 p hp l hl h
    rw [e1 l hl b0]; exact ⟨by omega, b1⟩
  · rw [e4 l hl] at h
    obtain ⟨b0, b1⟩ := a4 l hl q hq h
    rw [e1 q hq b0]; exact ⟨by omega, b1⟩
  · by_cases q : l = c
    · subst q; rw [e3]; exact hb
    · rw [e3, e1 l hl q]; exact a7 l hl
