/-! those that ring for a caller fall silent: all of them, or all but one -/
def spB (c b : Nat) : Nat → Nat → dM → dM
  | 0, _, M => M
  | n + 1, l, M => if M l 1 = 4 ∧ M l 3 = nI c ∧ ¬ l = b then spB c b n (l + 1) (f_hang M c l) else spB c b n (l + 1) M
theorem spB_stop {c : Nat} : ∀ (n l : Nat) (M : dM), l + n = 24 → spB c 24 n l M = spL c n l M
  | 0, _, _, _ => rfl
  | n + 1, l, M, e => by
    rw [spB, spL]
    by_cases h : M l 1 = 4 ∧ M l 3 = nI c
    · rw [if_pos ⟨h.1, h.2, by omega⟩, if_pos (show f_rfor M l (nI c) = true from decide_eq_true h)]
      exact spB_stop n (l + 1) _ (by omega)
    · have c1 : ¬ (M l 1 = 4 ∧ M l 3 = nI c ∧ ¬ l = 24) := fun q => h ⟨q.1, q.2.1⟩
      have c2 : ¬ f_rfor M l (nI c) = true := fun q => h (of_decide_eq_true q)
      rw [if_neg c1, if_neg c2]
      exact spB_stop n (l + 1) _ (by omega)
def g_hang (N : dM) (c l : Nat) : dM := g_bec (f_mark N c l (N l 4).toNatClampNeg (-1)) l 0
def huL (c : Nat) (b : Int32) : Nat → Nat → dM → dM
  | 0, _, N => N
  | n + 1, l, N => if N l 1 = 4 ∧ N l 3 = nI c ∧ ¬ nI l = b then huL c b n (l + 1) (g_hang N c l) else huL c b n (l + 1) N
theorem hang_s {M : dM} {c l : Nat} (hc : c < 24) (hl : l < 24) (j : Nat) : f_hang M c l l j = if j = 1 then 0 else if j = 2 then M 39 5 else if j = 3 ∨ j = 4 ∨ j = 5 then -1 else if j = 7 then 0 else M l j := by
  unfold f_hang
  rw [f_enter_s, mark_row hc hl (by omega), mark_row hc hl (by omega)]
theorem hang_r {M : dM} {c l r : Nat} (hc : c < 24) (hl : l < 24) (hr : r < 24 ∨ 28 ≤ r) (hn : r ≠ l) : f_hang M c l r = M r := by
  funext j
  unfold f_hang
  rw [f_enter_r hn, mark_row hc hl hr]
theorem hang_u {M : dM} {c l r j : Nat} (hn : r ≠ l) : f_hang M c l r j = f_mark M c l (M l 4).toNatClampNeg (-1) r j := by
  unfold f_hang
  rw [f_enter_r hn]
theorem Rx.hang {x c l : Nat} {M N : dM} (h : Rx x M N) (hc : c < 24) (hl : l < 24) (hx : l ≠ x) (h4 : M l 1 = 4) : Rx x (f_hang M c l) (g_hang N c l) := by
  obtain ⟨hL, hC⟩ := h.1 l hl hx
  have e4 : M l 4 = N l 4 := hL.2.2.1
  unfold f_hang g_hang
  rw [← e4]
  have hm := h.mark (t := (M l 4).toNatClampNeg) (w := -1) hc hl
  refine hm.row hl EX.enter EX.bec (fun _ => LR_idle hl ?_ hm.2.2.2.2.1) (fun q => absurd q hx)
  rw [mark_row hc hl (by omega), mark_row hc hl (by omega)]
  exact hL.kr (hC.2.2.2 (ne_of_st h4 (by decide)))
theorem Iv.hang {x c l : Nat} {M : dM} (h : Iv x M) (hc : c < 24) (hl : l < 24) (hx : l ≠ x) (h4 : M l 1 = 4) : Iv x (f_hang M c l) := by
  have nd := h.nd hl hx (ne_of_st h4 (by decide)) (ne_of_st h4 (by decide)) (ne_of_st h4 (by decide)) (ne_of_st h4 (by decide))
  refine h.row hl nd (fun r j hr hn => by rw [hang_r hc hl (by omega) hn]) (by rw [hang_s hc hl]; rfl) (fun _ q => ?_) ?_ (fun q => absurd q hx) ?_
  · rw [hang_s hc hl] at q; exact absurd (show (0 : Int32) = 4 from q) (by decide)
  · rw [hang_s hc hl]; exact (by decide : ¬ (0 : Int32) = 6)
  · rw [hang_s hc hl]; exact h.now
/-- as both fall silent; `but` is the line that goes on ringing -/
theorem hush_eq {x c b : Nat} {w : Int32} (hc : c < 24) (hb : ∀ l, l < 24 → (l = b ↔ nI l = w)) : ∀ (n l : Nat) (M N : dM), l + n = 24 → Rx x M N → Iv x M → Rx x (spB c b n l M) (huL c w n l N) ∧ Iv x (spB c b n l M)
  | 0, _, _, _, _, h, hI => ⟨h, hI⟩
  | n + 1, l, M, N, e, h, hI => by
    have hl : l < 24 := by omega
    rw [spB, huL]
    by_cases hx : l = x
    · subst hx
      obtain ⟨-, -, -, -, w9, -, -, w12, -⟩ := h.2.1 hl
      rw [if_neg (fun q => w9 q.1), if_neg (fun q => w12 q.1)]
      exact hush_eq hc hb n (l + 1) M N (by omega) h hI
    · obtain ⟨hL, hC⟩ := h.1 l hl hx
      have e1 : M l 1 = N l 1 := hL.1
      have e3 : M l 3 = N l 3 := hL.2.1
      rw [← e1, ← e3]
      by_cases q : M l 1 = 4 ∧ M l 3 = nI c ∧ ¬ l = b
      · rw [if_pos q, if_pos ⟨q.1, q.2.1, fun p => q.2.2 ((hb l hl).mpr p)⟩]
        exact hush_eq hc hb n (l + 1) _ _ (by omega) (h.hang hc hl hx q.1) (hI.hang hc hl hx q.1)
      · rw [if_neg q, if_neg (fun p => q ⟨p.1, p.2.1, fun r => p.2.2 ((hb l hl).mp r)⟩)]
        exact hush_eq hc hb n (l + 1) M N (by omega) h hI
theorem no24 : ∀ l, l < 24 → (l = 24 ↔ nI l = (-1 : Int32)) := fun l hl => ⟨fun q => by omega, fun q => absurd q (nI_m1 l (by omega))⟩
/-- what stays as it was, and what is silent -/
theorem spB_row {c b k : Nat} (hc : c < 24) (hk : k < 24 ∨ 28 ≤ k) : ∀ (n l : Nat) (M : dM), l + n = 24 → ¬ (k < 24 ∧ M k 1 = 4 ∧ M k 3 = nI c ∧ ¬ k = b) → spB c b n l M k = M k
  | 0, _, _, _, _ => rfl
  | n + 1, l, M, e, h => by
    rw [spB]
    split
    · next q =>
      have hn : k ≠ l := fun p => h ⟨by omega, by rw [p]; exact q.1, by rw [p]; exact q.2.1, by rw [p]; exact q.2.2⟩
      have er := hang_r (M := M) hc (show l < 24 by omega) hk hn
      rw [spB_row hc hk n (l + 1) _ (by omega) (by rw [er]; exact h), er]
    · exact spB_row hc hk n (l + 1) _ (by omega) h
theorem spB_nr {c b : Nat} (hc : c < 24) : ∀ (n l : Nat) (M : dM), l + n = 24 → (∀ k, k < l → k ≠ b → M k 1 = 4 → ¬ M k 3 = nI c) → ∀ k, k < 24 → k ≠ b → spB c b n l M k 1 = 4 → ¬ spB c b n l M k 3 = nI c
  | 0, l, M, e, h => fun k hk => h k (by omega)
  | n + 1, l, M, e, h => by
    rw [spB]
    have hl : l < 24 := by omega
    split
    · refine spB_nr hc n (l + 1) _ (by omega) (fun k hk hb => ?_)
      by_cases kl : k = l
      · subst kl
        rw [hang_s hc hl]
        intro q; exact absurd (show (0 : Int32) = 4 from q) (by decide)
      · rw [hang_r hc hl (by omega) kl]; exact h k (by omega) hb
    · next q =>
      refine spB_nr hc n (l + 1) _ (by omega) (fun k hk hb => ?_)
      by_cases kl : k = l
      · subst kl
        intro q1 q3; exact q ⟨q1, q3, hb⟩
      · exact h k (by omega) hb
theorem stop_row {c k : Nat} {M : dM} (hc : c < 24) (hk : k < 24 ∨ 28 ≤ k) (h : ¬ (k < 24 ∧ M k 1 = 4 ∧ M k 3 = nI c)) : f_stop M c k = M k := by
  unfold f_stop
  rw [← spB_stop 24 0 M rfl]
  exact spB_row hc hk 24 0 M rfl (fun q => h ⟨q.1, q.2.1, q.2.2.1⟩)
theorem stop_nr {c : Nat} {M : dM} (hc : c < 24) : ∀ k, k < 24 → f_stop M c k 1 = 4 → ¬ f_stop M c k 3 = nI c := by
  unfold f_stop
  rw [← spB_stop 24 0 M rfl]
  exact fun k hk => spB_nr hc 24 0 M rfl (fun k hk => absurd hk (by omega)) k hk (by omega)
theorem stop_eq {x c : Nat} {M N : dM} (hc : c < 24) (h : Rx x M N) (hI : Iv x M) : Rx x (f_stop M c) (huL c (-1) 24 0 N) ∧ Iv x (f_stop M c) := by
  unfold f_stop
  rw [← spB_stop 24 0 M rfl]
  exact hush_eq hc no24 24 0 M N rfl h hI
/-! a talk begins -/
theorem begin_r {M : dM} {c o r : Nat} {b : Int32} (h1 : r ≠ c) (h2 : r ≠ o) : f_begin M c o b r = M r := by
  funext j
  unfold f_begin f_talk f_bt1 f_talk
  rw [up2_r h1, up2_r h2, up2_r h2, f_enter_r h2, up2_r h1, up2_r h1, f_enter_r h1]
theorem bt1_39 {M : dM} {c o : Nat} {b : Int32} (hc : c < 24) : f_bt1 M c o b 39 5 = M 39 5 := by
  unfold f_bt1 f_talk
  rw [up2_r (by omega), up2_r (by omega), f_enter_r (by omega)]
theorem begin_c {M : dM} {c o : Nat} {b : Int32} (hco : c ≠ o) (j : Nat) : f_begin M c o b c j = if j = 7 then 1 else if j = 4 then b else if j = 3 then nI o else if j = 1 then 6 else if j = 2 then M 39 5 else if j = 5 then -1 else M c j := by
  unfold f_begin
  by_cases h7 : j = 7
  · simp [h7, up2]
  rw [up2_j h7, f_talk, up2_r hco, up2_r hco, f_enter_r hco, f_bt1, f_talk]
  simp only [up2, true_and, f_enter_s, if_neg h7]
  by_cases h4 : j = 4
  · simp [h4]
  by_cases h3 : j = 3
  · simp [h3]
  simp [h4, h3]
theorem begin_o {M : dM} {c o : Nat} {b : Int32} (hc : c < 24) (hco : c ≠ o) (j : Nat) : f_begin M c o b o j = if j = 4 then b else if j = 3 then nI c else if j = 1 then 6 else if j = 2 then M 39 5 else if j = 5 then -1 else if j = 7 then 0 else M o j := by
  unfold f_begin
  rw [up2_r (Ne.symm hco), bt1_39 hc, f_talk]
  have e : f_bt1 M c o b o = M o := by
    funext k
    unfold f_bt1 f_talk
    rw [up2_r (Ne.symm hco), up2_r (Ne.symm hco), f_enter_r (Ne.symm hco)]
  simp only [up2, true_and, f_enter_s, e]
  by_cases h4 : j = 4
  · simp [h4]
  by_cases h3 : j = 3
  · simp [h3]
  simp [h4, h3]
theorem conn_r {N : dM} {c o r : Nat} {b : Int32} (h1 : r ≠ c) (h2 : r ≠ o) : g_conn N c o b r = N r := by
  funext j
  unfold g_conn g_cn1
  rw [up2_r h1, up2_r h2, up2_r h1, up2_r h2, up2_r h1, up2_r h2, up2_r h1, EX.bec r j h2, EX.bec r j h1]
theorem cn1_39 {N : dM} {c o : Nat} {b : Int32} (hc : c < 24) (ho : o < 24) : g_cn1 N c o b 39 5 = N 39 5 := by
  unfold g_cn1
  rw [up2_r (by omega), up2_r (by omega), up2_r (by omega), up2_r (by omega), up2_r (by omega), up2_r (by omega), EX.bec 39 5 (by omega), EX.bec 39 5 (by omega)]
theorem conn_c {N : dM} {c o : Nat} {b : Int32} (hc : c < 24) (ho : o < 24) (hco : c ≠ o) (j : Nat) : g_conn N c o b c j = if j = 13 then N 39 5 else if j = 7 then 1 else if j = 4 then b else if j = 3 then nI o else if j = 5 then -1 else if j = 2 then N 39 5 else if j = 1 then 6 else N c j := by
  unfold g_conn
  rw [cn1_39 hc ho]
  by_cases h13 : j = 13
  · simp [h13, up2]
  rw [up2_j h13, g_cn1, up2_r hco, if_neg h13]
  by_cases h7 : j = 7
  · simp [h7, up2]
  rw [up2_j h7, up2_r hco, if_neg h7]
  by_cases h4 : j = 4
  · simp [h4, up2]
  rw [up2_j h4, up2_r hco, if_neg h4]
  by_cases h3 : j = 3
  · simp [h3, up2]
  rw [up2_j h3, EX.bec c j hco, becS_s hc (by decide), if_neg h3]
theorem conn_o {N : dM} {c o : Nat} {b : Int32} (hc : c < 24) (ho : o < 24) (hco : c ≠ o) (j : Nat) : g_conn N c o b o j = if j = 7 then 0 else if j = 4 then b else if j = 3 then nI c else if j = 5 then -1 else if j = 2 then N 39 5 else if j = 1 then 6 else N o j := by
  have hoc := Ne.symm hco
  unfold g_conn
  rw [up2_r hoc, g_cn1]
  by_cases h7 : j = 7
  · simp [h7, up2]
  rw [up2_j h7, up2_r hoc, if_neg h7]
  by_cases h4 : j = 4
  · simp [h4, up2]
  rw [up2_j h4, up2_r hoc, if_neg h4]
  by_cases h3 : j = 3
  · simp [h3, up2]
  rw [up2_j h3, up2_r hoc, becS_s ho (by decide), if_neg h3, EX.bec 39 5 (by omega), EX.bec o j hoc]
def JR (m n : Nat → Int32) : Prop := m 6 = n 6 ∧ m 8 = n 8 ∧ m 9 = n 9 ∧ m 10 = n 10
theorem LR.jr {m n : Nat → Int32} (h : LR m n) : JR m n := ⟨h.2.2.2.2.1, h.2.2.2.2.2.2.1, h.2.2.2.2.2.2.2.1, h.2.2.2.2.2.2.2.2.1⟩
theorem KR.jr {m n : Nat → Int32} (h : KR m n) : JR m n := ⟨h.1, h.2.1, h.2.2.1, h.2.2.2.1⟩
theorem begin_eq {c o : Nat} {M N : dM} {b : Int32} (hc : c < 24) (ho : o < 24) (hco : c ≠ o) (h1 : ∀ l, l < 24 → l ≠ c → l ≠ o → LR (M l) (N l) ∧ CL (M l)) (h2 : JR (M c) (N c)) (h3 : JR (M o) (N o)) (h4 : RR M N) : Rx 24 (f_begin M c o b) (g_conn N c o b) := by
  obtain ⟨a1, a2, a3, a4⟩ := h4
  refine ⟨fun l hl _ => ?_, fun q => absurd q (by omega), fun r j p q s => ?_, fun g hg ho2 => ?_, ?_, ?_⟩
  · by_cases lc : l = c
    · subst lc
      obtain ⟨b6, b8, b9, b10⟩ := h2
      unfold LR CL
      simp only [begin_c hco, conn_c hc ho hco]
      simp [b6, b8, b9, b10, a3]
    · by_cases lo : l = o
      · subst lo
        obtain ⟨b6, b8, b9, b10⟩ := h3
        unfold LR CL
        simp only [begin_o hc hco, conn_o hc ho hco]
        simp [b6, b8, b9, b10, a3]
      · rw [begin_r lc lo, conn_r lc lo]; exact h1 l hl lc lo
  · rw [begin_r (by omega) (by omega), conn_r (by omega) (by omega)]; exact a1 r j p q s
  · rw [begin_r (by omega) (by omega)] at ho2
    rw [begin_r (by omega) (by omega), conn_r (by omega) (by omega)]; exact a2 g hg ho2
  · rw [begin_r (by omega) (by omega), conn_r (by omega) (by omega)]; exact a3
  · rw [begin_r (by omega) (by omega), conn_r (by omega) (by omega)]; exact a4
theorem Iv.begin {c o : Nat} {M : dM} {b : Int32} (h : Iv 24 M) (hc : c < 24) (ho : o < 24) (hco : c ≠ o)
    (n1 : ∀ l, l < 24 → l ≠ c → l ≠ o → M l 1 = 4 → ¬ M l 3 = nI c ∧ ¬ M l 3 = nI o) (n2 : ∀ l, l < 24 → l ≠ c → l ≠ o → M l 1 = 6 → ¬ M l 3 = nI c ∧ ¬ M l 3 = nI o)
    (n3 : ∀ p, p < 4 → ¬ M 36 p = nI c ∧ ¬ M 36 p = nI o) (n4 : ∀ l, l < 24 → ¬ M l 10 = nI c ∧ ¬ M l 10 = nI o) : Iv 24 (f_begin M c o b) := by
  have hoc := Ne.symm hco
  have e10 : ∀ l, l < 24 → f_begin M c o b l 10 = M l 10 := fun l hl => by
    by_cases lc : l = c
    · subst lc; rw [begin_c hco]; rfl
    · by_cases lo : l = o
      · subst lo; rw [begin_o hc hco]; rfl
      · rw [begin_r lc lo]
  have e39 : f_begin M c o b 39 5 = M 39 5 := by rw [begin_r (by omega) (by omega)]
  have e36 : f_begin M c o b 36 = M 36 := begin_r (by omega) (by omega)
  obtain ⟨a1, a2, a3, a4, a5, a6, a7⟩ := h
  refine ⟨fun l hl hx h4 => ?_, fun l hl hx h6 => ?_, fun p hp l hl h => ?_, fun l hl q hq h => ?_, fun hx => absurd hx (by omega), by rw [e39]; exact a6, fun l hl => ?_⟩
  · by_cases lc : l = c
    · subst lc; rw [begin_c hco] at h4; exact absurd (show (6 : Int32) = 4 from h4) (by decide)
    · by_cases lo : l = o
      · subst lo; rw [begin_o hc hco] at h4; exact absurd (show (6 : Int32) = 4 from h4) (by decide)
      · rw [begin_r lc lo] at h4 ⊢
        obtain ⟨p, hp, b1, b2, b3⟩ := a1 l hl hx h4
        obtain ⟨m1, m2⟩ := n1 l hl lc lo h4
        exact ⟨p, hp, b1, b2, by rw [begin_r (r := p) (c := c) (o := o) (fun q => m1 (q ▸ b2)) (fun q => m2 (q ▸ b2))]; exact b3⟩
  · by_cases lc : l = c
    · subst lc
      refine ⟨o, ho, by omega, hoc, ?_, ?_, ?_, ?_⟩
      · rw [begin_c hco]; rfl
      · rw [begin_o hc hco]; rfl
      · rw [begin_o hc hco]; rfl
      · rw [begin_c hco, begin_o hc hco]; exact (by decide : ((1 : Int32) = 0 ↔ ¬ (0 : Int32) = 0))
    · by_cases lo : l = o
      · subst lo
        refine ⟨c, hc, by omega, hco, ?_, ?_, ?_, ?_⟩
        · rw [begin_o hc hco]; rfl
        · rw [begin_c hco]; rfl
        · rw [begin_c hco]; rfl
        · rw [begin_c hco, begin_o hc hco]; exact (by decide : ((0 : Int32) = 0 ↔ ¬ (1 : Int32) = 0))
      · rw [begin_r lc lo] at h6 ⊢
        obtain ⟨p, hp, b0, b1, b2, b3⟩ := a2 l hl hx h6
        obtain ⟨m1, m2⟩ := n2 l hl lc lo h6
        exact ⟨p, hp, b0, b1, b2, by rw [begin_r (r := p) (c := c) (o := o) (fun q => m1 (q ▸ b2)) (fun q => m2 (q ▸ b2))]; exact b3⟩
  · rw [e36] at h
    obtain ⟨m1, m2⟩ := n3 p hp
    rw [begin_r (r := l) (c := c) (o := o) (fun q => m1 (q ▸ h)) (fun q => m2 (q ▸ h))]; exact a3 p hp l hl h
  · rw [e10 l hl] at h
    obtain ⟨m1, m2⟩ := n4 l hl
    rw [begin_r (r := q) (c := c) (o := o) (fun p => m1 (p ▸ h)) (fun p => m2 (p ▸ h))]; exact a4 l hl q hq h
  · rw [e39]
    by_cases lc : l = c
    · subst lc; rw [show f_begin M l o b l 2 = M 39 5 by rw [begin_c hco]; rfl]; exact ⟨by omega, Int.le_refl _⟩
    · by_cases lo : l = o
      · subst lo; rw [show f_begin M c l b l 2 = M 39 5 by rw [begin_o hc hco]; rfl]; exact ⟨by omega, Int.le_refl _⟩
      · rw [begin_r lc lo]; exact a7 l hl
