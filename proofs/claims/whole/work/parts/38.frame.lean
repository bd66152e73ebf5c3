/-! the clock and the book's count, where nothing touches them -/
def Fr (M M' : dM) : Prop := M' 39 5 = M 39 5 ∧ M' 37 1 = M 37 1
theorem Fr.ref {M : dM} : Fr M M := ⟨Eq.refl _, Eq.refl _⟩
theorem Fr.trans {A B C : dM} (h1 : Fr A B) (h2 : Fr B C) : Fr A C := ⟨h2.1.trans h1.1, h2.2.trans h1.2⟩
theorem Fr.up {M : dM} {r j : Nat} {x : Int32} (h : r < 37) : Fr M (up2 M r j x) := ⟨up2_r (by omega), up2_r (by omega)⟩
theorem Fr.enter {M : dM} {l : Nat} {s n : Int32} (hl : l < 24) : Fr M (f_enter M l s n) := ⟨f_enter_r (by omega), f_enter_r (by omega)⟩
theorem Fr.mark {M : dM} {a b t : Nat} {w : Int32} (ha : a < 24) (hb : b < 24) : Fr M (f_mark M a b t w) := ⟨f_mark_r (by omega) (by omega), f_mark_r (by omega) (by omega)⟩
theorem Fr.take {M : dM} {a b : Nat} (ha : a < 24) (hb : b < 24) : Fr M (f_take M a b) := ⟨f_take_r (by omega) (by omega), f_take_r (by omega) (by omega)⟩
theorem Fr.ring {M : dM} {a b : Nat} (ha : a < 24) (hb : b < 24) : Fr M (f_ring M a b) := ⟨f_ring_r (by omega) (by omega) (by omega), f_ring_r (by omega) (by omega) (by omega)⟩
theorem Fr.block {M : dM} {c : Nat} (hc : c < 24) : Fr M (f_block M c) := by
  unfold f_block
  refine (Fr.enter hc (s := 5) (n := M 39 5)).trans ⟨up2_j (by decide), up2_r (by decide)⟩
theorem Fr.callLine {M : dM} {c m : Nat} (hc : c < 24) (hm : m < 24) : Fr M (f_callLine M c m) := by
  unfold f_callLine
  split
  · exact Fr.enter hc
  · split
    · exact (Fr.enter hc).trans (Fr.up (by omega))
    · split
      · exact (Fr.ring hc hm).trans (Fr.block hc)
      · exact (Fr.ring hc hm).trans (Fr.enter hc)
theorem Fr.begin {M : dM} {c o : Nat} {b : Int32} (hc : c < 24) (ho : o < 24) : Fr M (f_begin M c o b) := ⟨by rw [begin_r (by omega) (by omega)], by rw [begin_r (by omega) (by omega)]⟩
theorem Fr.tnp {M : dM} {c o : Nat} (hc : c < 24) (ho : o < 24) : Fr M (f_tnp M c o) := by
  unfold f_tnp
  split
  · exact Fr.take hc ho
  · exact (Fr.take hc ho).trans (Fr.begin hc ho)
theorem Fr.stop {M : dM} {c : Nat} (hc : c < 24) : Fr M (f_stop M c) := ⟨by rw [stop_row hc (Or.inr (by decide)) (by omega)], by rw [stop_row hc (Or.inr (by decide)) (by omega)]⟩
theorem Fr_cf : ∀ (n l : Nat) (M : dM), l + n = 24 → Sf M → Fr M (cfL n l M)
  | 0, _, _, _, _ => Fr.ref
  | n + 1, l, M, e, h => by
    rw [cfL]
    split
    · next hc =>
      obtain ⟨c, hc9, ec⟩ := ((h.1 l (by omega)).2.2.2.1).resolve_left hc.1
      rw [ec, nI_clamp (by omega)]
      exact ((Fr.up (by omega)).trans (Fr.callLine hc9 (by omega))).trans (Fr_cf n (l + 1) _ (by omega) ((h.camp0 (by omega) (Or.inl rfl)).callLine hc9 (by omega)))
    · exact Fr_cf n (l + 1) _ (by omega) h
theorem Fr.camps {M : dM} (h : Sf M) : Fr M (f_camps M) := Fr_cf 24 0 M rfl h
theorem Fr_ra {c g : Nat} (hc : c < 24) (hg : g < 4) : ∀ (n i : Nat) (M : dM) (r : Int32), i + n = grN M g → Sf M → Fr M (raL c g n i M r).1
  | 0, _, _, _, _, _ => Fr.ref
  | n + 1, i, M, r, e, h => by
    have hm := ((h.2.2 g hg).2.2.1 i (by omega)).2
    rw [raL]
    split
    · split
      · exact (Fr.ring hc hm).trans (Fr_ra hc hg n (i + 1) _ _ (by rw [grN_ring hc hm hg]; omega) (h.ring hc hm))
      · exact (Fr.ring hc hm).trans (Fr_ra hc hg n (i + 1) _ _ (by rw [grN_ring hc hm hg]; omega) (h.ring hc hm))
    · exact Fr_ra hc hg n (i + 1) _ _ (by omega) h
theorem Fr.cg {M : dM} {c g : Nat} (h : Sf M) (hc : c < 24) (hg : g < 4) : Fr M (cgM M c g) := by
  unfold cgM
  split
  · exact Fr_ra hc hg _ 0 _ _ (by omega) h
  · unfold f_ringOne
    split
    · exact Fr.ref
    · next hf =>
      obtain ⟨q, hq, eq, -⟩ := (f_at_cases M c g).resolve_left hf
      unfold f_ro1 f_rom
      rw [eq, nI_clamp (by have := (h.2.2 g hg).2.1; omega)]
      exact (Fr.up (by omega)).trans (Fr.ring hc ((h.2.2 g hg).2.2.1 q hq).2)
theorem Fr.callGroup {M : dM} {c g : Nat} (h : Sf M) (hc : c < 24) (hg : g < 4) : Fr M (f_callGroup M c g) := by
  unfold f_callGroup
  split
  · split
    · exact (Fr.cg h hc hg).trans (Fr.block hc)
    · exact (Fr.cg h hc hg).trans (Fr.enter hc)
  · exact (Fr.cg h hc hg).trans (Fr.enter hc)
theorem Fr.pick {M : dM} {c : Nat} (h : Sf M) (hc : c < 24) : Fr M (f_pick M c) := by
  cases e : f_fr M (c / 6) with
  | none => rw [f_pick_n e]; exact Fr.enter hc
  | some q =>
    rw [f_pick_s e]
    rcases frL_cases M 24 6 (c / 6 * 6) none 2147483647 (by omega) (Or.inl rfl) with z | ⟨q', hq, z, h4⟩
    · rw [f_fr, z] at e; cases e
    · rw [f_fr, z] at e; cases e
      obtain ⟨o, t, ho, ht, e3, e4⟩ := (h.1 q hq).1 (Or.inl h4)
      rw [oth, e3, nI_clamp (by omega)]
      unfold f_pick1
      split
      · exact (((Fr.stop ho).trans (Fr.tnp ho hc)).trans (Fr.enter ho)).trans (Fr.block hc)
      · exact (Fr.stop ho).trans (Fr.tnp ho hc)
theorem Fr.unpark {M : dM} {c p : Nat} (h : Sf M) (hc : c < 24) (hp : p < 4) : Fr M (f_unpark M c p) := by
  unfold f_unpark
  split
  · exact Fr.enter hc
  · next hf =>
    obtain ⟨x, hx, ex⟩ := (h.2.1 p hp).resolve_left hf
    rw [ex, nI_clamp (by omega)]
    unfold f_unpark1
    split
    · exact (Fr.tnp hx hc).trans (Fr.block hc)
    · exact (Fr.tnp hx hc).trans (Fr.up (by omega))
theorem Fr.call {M : dM} {c : Nat} {x : Int32} (h : Sf M) (hc : c < 24) : Fr M (f_call M c x) := by
  unfold f_call
  split
  · next q =>
    obtain ⟨j, h1, h2, rfl⟩ := rng (a := 10) (b := 34) (by decide) (by decide) q.1 q.2
    rw [show nI j - 10 = nI (j - 10) from pk_sub (b := 10) h1, nI_clamp (by omega)]
    exact Fr.callLine hc (by omega)
  · split
    · next q =>
      obtain ⟨j, h1, h2, rfl⟩ := rng (a := 40) (b := 44) (by decide) (by decide) q.1 q.2
      rw [show nI j - 40 = nI (j - 40) from pk_sub (b := 40) h1, nI_clamp (by omega)]
      exact Fr.callGroup h hc (by omega)
    · split
      · exact Fr.pick h hc
      · split
        · next q =>
          obtain ⟨j, h1, h2, rfl⟩ := rng (a := 60) (b := 64) (by decide) (by decide) q.1 q.2
          rw [show nI j - 60 = nI (j - 60) from pk_sub (b := 60) h1, nI_clamp (by omega)]
          exact Fr.unpark h hc (by omega)
        · refine Fr.trans ?_ (Fr.enter hc)
          unfold f_rest
          split
          · exact Fr.up (by omega)
          · split
            · exact Fr.up (by omega)
            · exact Fr.ref
/-! an idle line has no camper, once a call is over -/
def St (M : dM) : Prop := ∀ k, k < 24 → M k 1 = 0 → M k 10 = -1
theorem enter_st {M : dM} {c k : Nat} {s n : Int32} (hs : ¬ s = 0) : f_enter M c s n k 10 = M k 10 ∧ (f_enter M c s n k 1 = 0 → M k 1 = 0) := by
  by_cases e : k = c
  · subst e
    rw [f_enter_s, f_enter_s]
    exact ⟨rfl, fun q => absurd (show s = 0 from q) hs⟩
  · rw [f_enter_r e, f_enter_r e]; exact ⟨rfl, fun q => q⟩
theorem ring_st {M : dM} {c m k : Nat} (hc : c < 24) (hm : m < 24) (hk : k < 24) : f_ring M c m k 10 = M k 10 ∧ (f_ring M c m k 1 = 0 → M k 1 = 0) := by
  by_cases hf : f_free M c m = -1
  · rw [f_ring_none hf]; exact ⟨rfl, fun q => q⟩
  · by_cases e : k = m
    · subst e
      rw [f_ring_s hc hm hf, f_ring_s hc hm hf]
      exact ⟨rfl, fun q => absurd (show (4 : Int32) = 0 from q) (by decide)⟩
    · rw [f_ring_r (by omega) (by omega) e, f_ring_r (by omega) (by omega) e]; exact ⟨rfl, fun q => q⟩
theorem callLine_st {M : dM} {c m k : Nat} (hc : c < 24) (hm : m < 24) (hk : k < 24) : f_callLine M c m k 10 = M k 10 ∧ (f_callLine M c m k 1 = 0 → M k 1 = 0) := by
  unfold f_callLine
  split
  · exact enter_st (by decide)
  · split
    · rw [up2_j (by decide), up2_j (by decide)]; exact enter_st (by decide)
    · obtain ⟨a, b⟩ := ring_st (M := M) hc hm hk
      split
      · unfold f_block
        rw [up2_r (by omega), up2_r (by omega)]
        obtain ⟨a', b'⟩ := enter_st (M := f_ring M c m) (c := c) (k := k) (s := 5) (n := f_ring M c m 39 5) (by decide)
        exact ⟨a'.trans a, fun q => b (b' q)⟩
      · obtain ⟨a', b'⟩ := enter_st (M := f_ring M c m) (c := c) (k := k) (s := 3) (n := f_ring M c m 39 5) (by decide)
        exact ⟨a'.trans a, fun q => b (b' q)⟩
theorem St_cf : ∀ (n l : Nat) (M : dM), l + n = 24 → Sf M → (∀ k, k < l → M k 1 = 0 → M k 10 = -1) → St (cfL n l M)
  | 0, l, M, e, _, h => fun k hk => h k (by omega)
  | n + 1, l, M, e, hS, h => by
    have hl : l < 24 := by omega
    rw [cfL]
    split
    · next hc =>
      obtain ⟨c, hc9, ec⟩ := ((hS.1 l hl).2.2.2.1).resolve_left hc.1
      rw [ec, nI_clamp (by omega)]
      refine St_cf n (l + 1) _ (by omega) ((hS.camp0 hl (Or.inl rfl)).callLine hc9 hl) (fun k hk h0 => ?_)
      obtain ⟨a, b⟩ := callLine_st (M := up2 M l 10 (-1)) (c := c) (m := l) (k := k) hc9 hl (by omega)
      rw [a]
      by_cases kl : k = l
      · subst kl; exact up2_s _ _ _ _
      · rw [up2_r kl]
        have := b h0
        rw [up2_r kl] at this
        exact h k (by omega) this
    · next hc =>
      refine St_cf n (l + 1) _ (by omega) hS (fun k hk h0 => ?_)
      by_cases kl : k = l
      · subst kl
        by_cases q : M k 10 = -1
        · exact q
        · exact absurd ⟨q, h0⟩ hc
      · exact h k (by omega) h0
theorem St.camps {M : dM} (h : Sf M) : St (f_camps M) := St_cf 24 0 M rfl h (fun k hk => absurd hk (by omega))
theorem cf_id : ∀ (n l : Nat) (M : dM), l + n = 24 → St M → cfL n l M = M
  | 0, _, _, _, _ => rfl
  | n + 1, l, M, e, h => by
    have c1 : ¬ (¬ M l 10 = -1 ∧ M l 1 = 0) := fun q => q.1 (h l (by omega) q.2)
    rw [cfL, if_neg c1]
    exact cf_id n (l + 1) M (by omega) h
theorem camps_id {M : dM} (h : St M) : f_camps M = M := cf_id 24 0 M rfl h
theorem se_id : ∀ (n l : Nat) (N : dM), l + n = 24 → St N → seL n l N = N
  | 0, _, _, _, _ => rfl
  | n + 1, l, N, e, h => by
    have c1 : ¬ (N l 1 = 0 ∧ ¬ N l 10 < 0) := fun q => q.2 (by rw [h l (by omega) q.1]; decide)
    rw [seL, if_neg c1]
    exact se_id n (l + 1) N (by omega) h
theorem Rx.st {M N : dM} (h : Rx 24 M N) (hs : St M) : St N := fun k hk h0 => by
  obtain ⟨hL, -⟩ := h.1 k hk (by omega)
  rw [← hL.2.2.2.2.2.2.2.2.1]
  exact hs k hk (by rw [hL.1]; exact h0)
