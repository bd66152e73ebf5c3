theorem hang_begin {M : dM} {o l k : Nat} {b : Int32} (ho : o < 24) (hl : l < 24) (hk : k < 24) (hol : o ≠ l) (ko : k ≠ o) (kl : k ≠ l) : f_hang (f_begin M o l b) o k = f_begin (f_hang M o k) o l b := by
  have e39 : f_hang M o k 39 5 = M 39 5 := by rw [hang_r ho hk (by omega) (by omega)]
  have f39 : f_begin M o l b 39 5 = M 39 5 := by rw [begin_r (by omega) (by omega)]
  funext r j
  by_cases ro : r = o
  · subst ro
    rw [hang_r ho hk (Or.inl ho) (Ne.symm ko), begin_c hol, begin_c hol, e39, hang_r ho hk (Or.inl ho) (Ne.symm ko)]
  · by_cases rl : r = l
    · subst rl
      rw [hang_r ho hk (Or.inl hl) (Ne.symm kl), begin_o ho hol, begin_o ho hol, e39, hang_r ho hk (Or.inl hl) (Ne.symm kl)]
    · rw [begin_r ro rl]
      by_cases rk : r = k
      · subst rk
        rw [hang_s ho hk, hang_s ho hk, f39, begin_r ko kl]
      · rw [hang_u rk, hang_u rk, mark_at, mark_at, begin_r ro rl, begin_r ko kl]
theorem spL_begin {o l : Nat} {b : Int32} (ho : o < 24) (hl : l < 24) (hol : o ≠ l) : ∀ (n k : Nat) (M : dM), k + n = 24 → ¬ M o 1 = 4 → spL o n k (f_begin M o l b) = f_begin (spB o l n k M) o l b
  | 0, _, _, _, _ => rfl
  | n + 1, k, M, e, h4 => by
    have hk : k < 24 := by omega
    rw [spL, spB]
    by_cases ko : k = o
    · subst ko
      have c1 : ¬ (M k 1 = 4 ∧ M k 3 = nI k ∧ ¬ k = l) := fun q => h4 q.1
      have c2 : ¬ f_rfor (f_begin M k l b) k (nI k) = true := fun q => by
        have := (of_decide_eq_true q).1
        rw [begin_c hol] at this
        exact absurd (show (6 : Int32) = 4 from this) (by decide)
      rw [if_neg c1, if_neg c2]
      exact spL_begin ho hl hol n (k + 1) M (by omega) h4
    · by_cases kl : k = l
      · subst kl
        have c1 : ¬ (M k 1 = 4 ∧ M k 3 = nI o ∧ ¬ k = k) := fun q => q.2.2 rfl
        have c2 : ¬ f_rfor (f_begin M o k b) k (nI o) = true := fun q => by
          have := (of_decide_eq_true q).1
          rw [begin_o ho hol] at this
          exact absurd (show (6 : Int32) = 4 from this) (by decide)
        rw [if_neg c1, if_neg c2]
        exact spL_begin ho hl hol n (k + 1) M (by omega) h4
      · have er : f_begin M o l b k = M k := begin_r ko kl
        by_cases q : M k 1 = 4 ∧ M k 3 = nI o
        · have c1 : M k 1 = 4 ∧ M k 3 = nI o ∧ ¬ k = l := ⟨q.1, q.2, kl⟩
          have c2 : f_rfor (f_begin M o l b) k (nI o) = true := decide_eq_true (by rw [er]; exact q)
          rw [if_pos c1, if_pos c2, hang_begin ho hl hk hol ko kl]
          exact spL_begin ho hl hol n (k + 1) _ (by omega) (by rw [hang_r ho hk (Or.inl ho) (Ne.symm ko)]; exact h4)
        · have c1 : ¬ (M k 1 = 4 ∧ M k 3 = nI o ∧ ¬ k = l) := fun p => q ⟨p.1, p.2.1⟩
          have c2 : ¬ f_rfor (f_begin M o l b) k (nI o) = true := fun p => q (by have := of_decide_eq_true p; rw [er] at this; exact this)
          rw [if_neg c1, if_neg c2]
          exact spL_begin ho hl hol n (k + 1) M (by omega) h4
theorem answer_eq {o l : Nat} {M N : dM} {b : Int32} (h : Rx 24 M N) (hI : Iv 24 M) (hl : l < 24) (ho : o < 24) (h4 : M l 1 = 4) (e3 : M l 3 = nI o) : Rx 24 (f_stop (f_begin M o l b) o) (g_conn (huL o (nI l) 24 0 N) o l b) ∧ Iv 24 (f_stop (f_begin M o l b) o) := by
  obtain ⟨o', ho', hol, e3', h3⟩ := hI.1 l hl (by omega) h4
  have : o' = o := nI_eq24 ho' ho (e3'.symm.trans e3)
  subst this
  have h3 : M o' 1 = 3 := h3.resolve_right (by omega)
  have e : f_stop (f_begin M o' l b) o' = f_begin (spB o' l 24 0 M) o' l b := spL_begin ho' hl hol 24 0 M rfl (ne_of_st h3 (by decide))
  rw [e]
  obtain ⟨r1, r2⟩ := hush_eq (x := 24) (b := l) (w := nI l) ho' (fun k hk => ⟨fun q => by rw [q], fun q => nI_eq24 hk hl q⟩) 24 0 M N rfl h hI
  have rl : spB o' l 24 0 M l = M l := spB_row ho' (Or.inl hl) 24 0 M rfl (fun q => q.2.2.2 rfl)
  have ro : spB o' l 24 0 M o' = M o' := spB_row ho' (Or.inl ho') 24 0 M rfl (fun q => by rw [h3] at q; exact absurd q.2.1 (by decide))
  have sl : spB o' l 24 0 M l 1 = 4 := by rw [rl]; exact h4
  have so : spB o' l 24 0 M o' 1 = 3 := by rw [ro]; exact h3
  refine ⟨begin_eq ho' hl hol (fun k hk _ _ => r1.1 k hk (by omega)) (r1.1 o' ho' (by omega)).1.jr (r1.1 l hl (by omega)).1.jr r1.2.2, r2.begin ho' hl hol (fun k hk k1 k2 k4 => ⟨?_, ?_⟩) (fun k hk k1 k2 k6 => ⟨?_, ?_⟩) (fun p hp => ⟨?_, ?_⟩) (fun k hk => ⟨?_, ?_⟩)⟩
  · exact spB_nr ho' 24 0 M rfl (fun k hk => absurd hk (by omega)) k hk k2 k4
  · exact r2.nd1 hl (ne_of_st sl (by decide)) k hk k2 k4
  · exact r2.nd2 ho' (ne_of_st so (by decide)) k hk k1 k6
  · exact r2.nd2 hl (ne_of_st sl (by decide)) k hk k2 k6
  · exact r2.nd3 ho' (ne_of_st so (by decide)) p hp
  · exact r2.nd3 hl (ne_of_st sl (by decide)) p hp
  · exact r2.nd4 ho' (ne_of_st so (by decide)) k hk
  · exact r2.nd4 hl (ne_of_st sl (by decide)) k hk
theorem Iv_spB {x c b : Nat} (hc : c < 24) : ∀ (n l : Nat) (M : dM), l + n = 24 → Iv x M → Iv x (spB c b n l M)
  | 0, _, _, _, h => h
  | n + 1, l, M, e, h => by
    rw [spB]
    split
    · next q =>
      have hx : l ≠ x := fun p => (h.2.2.2.2.1 (by omega)).1 (by rw [← p]; exact q.1)
      exact Iv_spB hc n (l + 1) _ (by omega) (h.hang hc (by omega) hx q.1)
    · exact Iv_spB hc n (l + 1) _ (by omega) h
theorem Iv.stop {x c : Nat} {M : dM} (h : Iv x M) (hc : c < 24) : Iv x (f_stop M c) := by
  unfold f_stop
  rw [← spB_stop 24 0 M rfl]
  exact Iv_spB hc 24 0 M rfl h
/-! who rang first in a unit -/
def fdL (N : dM) : Nat → Nat → Int32 → Int32
  | 0, _, f => f
  | n + 1, l, f => if N l 1 = 4 ∧ (f < 0 ∨ N l 2 < N f.toNatClampNeg 2) then fdL N n (l + 1) (nI l) else fdL N n (l + 1) f
theorem fr_fd {c : Nat} {M N : dM} (h : Rx c M N) (hI : Iv 24 M) (ht : M 39 5 < 2147483647) : ∀ (n l : Nat) (b : Option Nat) (s f : Int32), l + n ≤ 24 →
    ((b = none ∧ s = 2147483647 ∧ f = -1) ∨ ∃ q, q < 24 ∧ q ≠ c ∧ M q 1 = 4 ∧ b = some q ∧ s = M q 2 ∧ f = nI q) →
    (frL M n l b s = none ∧ fdL N n l f = -1) ∨ ∃ q, q < 24 ∧ q ≠ c ∧ M q 1 = 4 ∧ frL M n l b s = some q ∧ fdL N n l f = nI q
  | 0, _, _, _, _, _, hh => by
    rcases hh with ⟨a, -, b⟩ | ⟨q, h1, h2, h3, h4, -, h5⟩
    · exact Or.inl ⟨a, b⟩
    · exact Or.inr ⟨q, h1, h2, h3, h4, h5⟩
  | n + 1, l, b, s, f, e, hh => by
    rw [frL, fdL]
    by_cases lc : l = c
    · subst lc
      obtain ⟨-, -, -, -, w9, -, -, w12, -⟩ := h.2.1 (by omega)
      rw [if_neg (fun q => w9 q.1), if_neg (fun q => w12 q.1)]
      exact fr_fd h hI ht n (l + 1) b s f (by omega) hh
    · have hl : l < 24 := by omega
      obtain ⟨hL, -⟩ := h.1 l hl lc
      have e1 : M l 1 = N l 1 := hL.1
      by_cases h4 : M l 1 = 4
      · have e2 : M l 2 = N l 2 := hL.2.2.2.2.2.2.2.2.2.2.1 (ne_of_st h4 (by decide))
        have hb := hI.2.2.2.2.2.2 l hl
        have h9 : M l 2 < 2147483647 := Int32.lt_iff_toInt_lt.mpr (by have := Int32.lt_iff_toInt_lt.mp ht; omega)
        rcases hh with ⟨rfl, rfl, rfl⟩ | ⟨q, h1, h2, h3, rfl, rfl, rfl⟩
        · rw [if_pos ⟨h4, h9⟩, if_pos ⟨by rw [← e1]; exact h4, Or.inl (by decide)⟩]
          exact fr_fd h hI ht n (l + 1) _ _ _ (by omega) (Or.inr ⟨l, hl, lc, h4, rfl, rfl, rfl⟩)
        · have e2q : M q 2 = N q 2 := (h.1 q h1 h2).1.2.2.2.2.2.2.2.2.2.2.1 (ne_of_st h3 (by decide))
          by_cases hq : M l 2 < M q 2
          · rw [if_pos ⟨h4, hq⟩, if_pos ⟨by rw [← e1]; exact h4, Or.inr (by rw [nI_clamp (by omega), ← e2, ← e2q]; exact hq)⟩]
            exact fr_fd h hI ht n (l + 1) _ _ _ (by omega) (Or.inr ⟨l, hl, lc, h4, rfl, rfl, rfl⟩)
          · have c2 : ¬ (N l 1 = 4 ∧ (nI q < 0 ∨ N l 2 < N (nI q).toNatClampNeg 2)) := fun p => by
              rcases p.2 with p | p
              · exact nI_pos (by omega) p
              · rw [nI_clamp (by omega), ← e2, ← e2q] at p; exact hq p
            rw [if_neg (fun p => hq p.2), if_neg c2]
            exact fr_fd h hI ht n (l + 1) _ _ _ (by omega) (Or.inr ⟨q, h1, h2, h3, rfl, rfl, rfl⟩)
      · rw [if_neg (fun q => h4 q.1), if_neg (fun q => h4 (by rw [e1]; exact q.1))]
        exact fr_fd h hI ht n (l + 1) b s f (by omega) hh
/-! pick-up -/
def g_pick1 (N : dM) (q c : Nat) : dM := if f_free (huL q (-1) 24 0 N) q c < 0 then g_busy (g_busy (up2 (f_take (huL q (-1) 24 0 N) q c) 39 6 (f_take (huL q (-1) 24 0 N) q c 39 6 + 1)) q) c else g_conn (f_take (huL q (-1) 24 0 N) q c) q c (f_free (huL q (-1) 24 0 N) q c)
def g_pick (N : dM) (c : Nat) : dM := if fdL N 6 (6 * (c / 6)) (-1) < 0 then g_busy N c else g_pick1 N (N (fdL N 6 (6 * (c / 6)) (-1)).toNatClampNeg 3).toNatClampNeg c
theorem nd_cs {c : Nat} {M : dM} (h : Iv 24 M) (hc : c < 24) (hcs : M c 1 = 2 ∨ M c 1 = 5) : ND c M := by
  rcases hcs with q | q <;> exact h.nd hc (by omega) (ne_of_st q (by decide)) (ne_of_st q (by decide)) (ne_of_st q (by decide)) (ne_of_st q (by decide))
theorem begin_call {o c : Nat} {M N : dM} {b : Int32} (h : Rx c M N) (hI : Iv 24 M) (ndo : ND o M) (ndc : ND c M) (hc : c < 24) (ho : o < 24) (hoc : o ≠ c) : Rx 24 (f_begin M o c b) (g_conn N o c b) ∧ Iv 24 (f_begin M o c b) :=
  ⟨begin_eq ho hc hoc (fun k hk k1 k2 => h.1 k hk k2) (h.1 o ho hoc).1.jr (h.2.1 hc).1.jr h.2.2,
   hI.begin ho hc hoc (fun k hk k1 k2 k4 => ⟨ndo.1 k hk k1 k4, ndc.1 k hk k2 k4⟩) (fun k hk k1 k2 k4 => ⟨ndo.2.1 k hk k1 k4, ndc.2.1 k hk k2 k4⟩) (fun p hp => ⟨ndo.2.2.1 p hp, ndc.2.2.1 p hp⟩) (fun k hk => ⟨ndo.2.2.2 k hk, ndc.2.2.2 k hk⟩)⟩
theorem ND.take {q a b : Nat} {M : dM} (h : ND q M) (ha : a < 24) (hb : b < 24) : ND q (f_take M a b) := by
  obtain ⟨n1, n2, n3, n4⟩ := h
  exact ⟨fun l hl => by rw [take_row ha hb (Or.inl hl)]; exact n1 l hl, fun l hl => by rw [take_row ha hb (Or.inl hl)]; exact n2 l hl, fun p hp => by rw [take_row ha hb (Or.inr (by decide))]; exact n3 p hp, fun l hl => by rw [take_row ha hb (Or.inl hl)]; exact n4 l hl⟩
theorem pick1_eq {o c : Nat} {M N : dM} (h : Rx c M N) (hI : Iv 24 M) (hcs : M c 1 = 2 ∨ M c 1 = 5) (hc : c < 24) (ho : o < 24) (hoc : o ≠ c) (h3 : M o 1 = 3) : Rx 24 (f_pick1 M o c) (g_pick1 N o c) ∧ Iv 24 (f_pick1 M o c) := by
  have ndc0 := nd_cs hI hc hcs
  have hw := h.2.1 hc
  have r1 := (stop_eq ho h (hI.ex0 ndc0 hw.2.2.2.2.1 hw.2.2.2.2.2.1)).1
  have r2 := hI.stop ho
  have ro : f_stop M o o = M o := stop_row ho (Or.inl ho) (fun q => by rw [h3] at q; exact absurd q.2.1 (by decide))
  have rc : f_stop M o c = M c := stop_row ho (Or.inl hc) (fun q => hw.2.2.2.2.1 q.2.1)
  have so : f_stop M o o 1 = 3 := by rw [ro]; exact h3
  have ndc : ND c (f_stop M o) := nd_cs r2 hc (by rw [rc]; exact hcs)
  have ndo : ND o (f_stop M o) := ⟨fun k hk _ k4 => stop_nr ho k hk k4, r2.nd2 ho (ne_of_st so (by decide)), r2.nd3 ho (ne_of_st so (by decide)), r2.nd4 ho (ne_of_st so (by decide))⟩
  unfold f_pick1 g_pick1 f_tnp
  generalize hM1 : f_stop M o = M1 at *
  generalize hN1 : huL o (-1) 24 0 N = N1 at *
  rw [r1.2.2.free ho hc]
  by_cases hf : f_free M1 o c = -1
  · have hf2 := (free_lt0 M1 o c).mpr hf
    rw [if_pos hf, if_pos hf, if_pos hf2, f_take_none hf, f_take_none (M := N1) (by rw [r1.2.2.free ho hc]; exact hf), busy_blk ho]
    have hL := r1.1 o ho hoc
    have hR : Rx c (f_enter M1 o 5 (M1 39 5)) (g_busy N1 o) := r1.row ho EX.enter EX.busy (fun _ => LR_busy ho (hL.1.kr (hL.2.2.2.2 (ne_of_st so (by decide)))) r1.2.2.2.2.1) (fun q => absurd q hoc)
    have hJ : Iv 24 (f_enter M1 o 5 (M1 39 5)) := r2.enter ho ndo (by decide) (by decide) rfl
    have ndc2 : ND c (f_enter M1 o 5 (M1 39 5)) := nd_cs hJ hc (by rw [f_enter_r (Ne.symm hoc), rc]; exact hcs)
    refine ⟨?_, hJ.block hc ndc2⟩
    have e6 : g_busy N1 o 39 6 = N1 39 6 := EX.busy 39 6 (by omega)
    rw [← e6]
    exact hR.blocked hc
  · have hf2 : ¬ f_free M1 o c < 0 := fun q => hf ((free_lt0 M1 o c).mp q)
    rw [if_neg hf, if_neg hf, if_neg hf2]
    exact begin_call (r1.take ho hc) (r2.take ho hc) (ndo.take ho hc) (ndc.take ho hc) hc ho hoc
theorem pick_eq {c : Nat} {M N : dM} (h : Rx c M N) (hI : Iv 24 M) (ht : M 39 5 < 2147483647) (hcs : M c 1 = 2 ∨ M c 1 = 5) (hc : c < 24) : Rx 24 (f_pick M c) (g_pick N c) ∧ Iv 24 (f_pick M c) := by
  have ndc := nd_cs hI hc hcs
  rcases fr_fd h hI ht 6 (6 * (c / 6)) none 2147483647 (-1) (by omega) (Or.inl ⟨rfl, rfl, rfl⟩) with ⟨a, b⟩ | ⟨q, hq, hqc, h4, a, b⟩
  · have a' : f_fr M (c / 6) = none := by rw [f_fr, Nat.mul_comm]; exact a
    rw [f_pick_n a', g_pick, b, if_pos (by decide)]
    exact ⟨h.busy hc rfl, hI.enter hc ndc (by decide) (by decide) rfl⟩
  · have a' : f_fr M (c / 6) = some q := by rw [f_fr, Nat.mul_comm]; exact a
    rw [f_pick_s a', g_pick, b, if_neg (nI_pos (by omega)), nI_clamp (by omega)]
    obtain ⟨o, ho, -, e3, h3⟩ := hI.1 q hq (by omega) h4
    have hoc : o ≠ c := fun p => ndc.1 q hq hqc h4 (p ▸ e3)
    have e3n : N q 3 = nI o := by rw [← (h.1 q hq hqc).1.2.1]; exact e3
    rw [oth, e3, e3n, nI_clamp (by omega)]
    exact pick1_eq h hI hcs hc ho hoc (h3.resolve_right (by omega))
/-! a parked call is taken -/
def g_unpark (N : dM) (c p : Nat) : dM :=
  if N 36 p < 0 then g_busy N c
  else if f_free N (N 36 p).toNatClampNeg c < 0 then g_busy (up2 (f_take N (N 36 p).toNatClampNeg c) 39 6 (f_take N (N 36 p).toNatClampNeg c 39 6 + 1)) c
  else g_conn (up2 (f_take N (N 36 p).toNatClampNeg c) 36 p (-1)) (N 36 p).toNatClampNeg c (f_free N (N 36 p).toNatClampNeg c)
theorem begin_36 {M : dM} {x c p : Nat} {b v : Int32} (hx : x < 24) (hc : c < 24) (hxc : x ≠ c) : up2 (f_begin M x c b) 36 p v = f_begin (up2 M 36 p v) x c b := by
  have e39 : up2 M 36 p v 39 5 = M 39 5 := up2_r (by omega)
  funext r j
  by_cases rx : r = x
  · subst rx; rw [up2_r (by omega), begin_c hxc, begin_c hxc, e39, up2_r (show r ≠ 36 by omega)]
  · by_cases rc : r = c
    · subst rc; rw [up2_r (by omega), begin_o hx hxc, begin_o hx hxc, e39, up2_r (show r ≠ 36 by omega)]
    · rw [begin_r rx rc]
      unfold up2
      rw [begin_r rx rc]
theorem Rx.plc {x p : Nat} {M N : dM} {v : Int32} (h : Rx x M N) : Rx x (up2 M 36 p v) (up2 N 36 p v) := by
  have er : ∀ (M : dM) l, l ≠ 36 → up2 M 36 p v l = M l := fun M l hl => funext (fun j => up2_r hl)
  obtain ⟨h1, h2, a1, a2, a3, a4⟩ := h
  refine ⟨fun l a9 b9 => ?_, fun a9 => ?_, fun r j a b c => ?_, fun g hg ho => ?_, ?_, ?_⟩
  · rw [er _ l (by omega), er _ l (by omega)]; exact h1 l a9 b9
  · rw [er _ 39 (by omega), er _ x (by omega), er _ x (by omega)]; exact h2 a9
  · unfold up2
    split
    · rfl
    · exact a1 r j a b c
  · rw [er _ _ (by omega)] at ho
    rw [er _ _ (by omega), er _ _ (by omega)]; exact a2 g hg ho
  · rw [er _ 39 (by omega), er _ 39 (by omega)]; exact a3
  · rw [er _ 39 (by omega), er _ 39 (by omega)]; exact a4
theorem Iv.plc0 {p : Nat} {M : dM} (h : Iv 24 M) : Iv 24 (up2 M 36 p (-1)) := by
  have er : ∀ l, l ≠ 36 → up2 M 36 p (-1) l = M l := fun l hl => funext (fun j => up2_r hl)
  obtain ⟨a1, a2, a3, a4, a5, a6, a7⟩ := h
  refine ⟨fun l hl hx h4 => ?_, fun l hl hx h6 => ?_, fun q hq l hl h => ?_, fun l hl c hc h => ?_, fun hx => absurd hx (by omega), by rw [er 39 (by omega)]; exact a6, fun l hl => by rw [er l (by omega), er 39 (by omega)]; exact a7 l hl⟩
  · rw [er l (by omega)] at h4 ⊢
    obtain ⟨o, ho, b1, b2, b3⟩ := a1 l hl hx h4
    exact ⟨o, ho, b1, b2, by rw [er o (by omega)]; exact b3⟩
  · rw [er l (by omega)] at h6 ⊢
    obtain ⟨o, ho, b1, b2, b3⟩ := a2 l hl hx h6
    exact ⟨o, ho, b1, b2, by rw [er o (by omega)]; exact b3⟩
  · by_cases qp : q = p
    · subst qp; rw [up2_s] at h; exact absurd h.symm (nI_m1 l (by omega))
    · rw [up2_j qp] at h
      rw [er l (by omega)]; exact a3 q hq l hl h
  · rw [er l (by omega)] at h
    rw [er c (by omega)]; exact a4 l hl c hc h
theorem unpark_eq {c p : Nat} {M N : dM} (h : Rx c M N) (hI : Iv 24 M) (hS : Sf M) (hcs : M c 1 = 2 ∨ M c 1 = 5) (hc : c < 24) (hp : p < 4) : Rx 24 (f_unpark M c p) (g_unpark N c p) ∧ Iv 24 (f_unpark M c p) := by
  have ndc := nd_cs hI hc hcs
  have e36 : N 36 p = M 36 p := (h.2.2.1 36 p (by decide) (by decide) (by omega)).symm
  unfold f_unpark g_unpark
  rw [e36]
  rcases hS.2.1 p hp with q | ⟨x, hx, q⟩
  · rw [if_pos q, if_pos (by rw [q]; decide)]
    exact ⟨h.busy hc rfl, hI.enter hc ndc (by decide) (by decide) rfl⟩
  · have c1 : ¬ M 36 p = -1 := by rw [q]; exact nI_m1 x (by omega)
    have c2 : ¬ M 36 p < 0 := by rw [q]; exact nI_pos (by omega)
    rw [if_neg c1, if_neg c2, q, nI_clamp (by omega), h.2.2.free hx hc]
    obtain ⟨-, h7, h3⟩ := hI.2.2.1 p hp x hx q
    have hxc : x ≠ c := fun z => ndc.2.2.1 p hp (z ▸ q)
    unfold f_unpark1 f_tnp
    by_cases hf : f_free M x c = -1
    · have hf2 := (free_lt0 M x c).mpr hf
      rw [if_pos hf, if_pos hf, if_pos hf2, f_take_none hf, f_take_none (M := N) (by rw [h.2.2.free hx hc]; exact hf)]
      exact ⟨h.blocked hc, hI.block hc ndc⟩
    · have hf2 : ¬ f_free M x c < 0 := fun z => hf ((free_lt0 M x c).mp z)
      rw [if_neg hf, if_neg hf, if_neg hf2, begin_36 hx hc hxc]
      have r1 := (h.take hx hc).plc (p := p) (v := -1)
      have r2 := (hI.take hx hc).plc0 (p := p)
      have sx : up2 (f_take M x c) 36 p (-1) x 1 = 7 := by rw [up2_r (by omega), take_row hx hc (Or.inl hx)]; exact h7
      have sc : up2 (f_take M x c) 36 p (-1) c 1 = 2 ∨ up2 (f_take M x c) 36 p (-1) c 1 = 5 := by rw [up2_r (by omega), take_row hx hc (Or.inl hc)]; exact hcs
      refine begin_call r1 r2 ⟨r2.nd1 hx (ne_of_st sx (by decide)), r2.nd2 hx (ne_of_st sx (by decide)), fun p' hp' e => ?_, r2.nd4 hx (ne_of_st sx (by decide))⟩ (nd_cs r2 hc sc) hc hx hxc
      by_cases pp : p' = p
      · subst pp; rw [up2_s] at e; exact absurd e.symm (nI_m1 x (by omega))
      · rw [up2_j pp, take_row hx hc (Or.inr (by decide))] at e
        have e2 := (hI.2.2.1 p' hp' x hx e).2.2
        exact pp (nI_eq24 (by omega) (by omega) (e2.symm.trans h3))
