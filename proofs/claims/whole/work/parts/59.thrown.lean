/-! WHAT THE MODEL'S STEPS LEAVE ALONE: the word that says what was thrown -/
def w24 (v : Int32) : Prop := v.toNatClampNeg < 24
def Gd (z : Int32) (N : dM) : Prop := (∀ r, r < 24 → w24 (N r 3) ∧ w24 (N r 10)) ∧ (∀ p, w24 (N 36 p)) ∧ (∀ r j, 32 ≤ r → r < 36 → w24 (N r j)) ∧ N 39 7 = z
theorem w24_z : w24 0 := by unfold w24; decide
theorem w24_m : w24 (-1) := by unfold w24; decide
theorem w24_n {l : Nat} (h : l < 24) : w24 (nI l) := by unfold w24; rw [nI_clamp (by omega)]; exact h
theorem Gd.up {z : Int32} {N : dM} {r j : Nat} {v : Int32} (h : Gd z N) (h1 : ¬ (r = 39 ∧ j = 7)) (h2 : w24 v ∨ (r < 24 ∧ j ≠ 3 ∧ j ≠ 10) ∨ (24 ≤ r ∧ r < 32) ∨ 36 < r) : Gd z (up2 N r j v) := by
  obtain ⟨g1, g2, g3, g4⟩ := h
  refine ⟨fun a ha => ⟨?_, ?_⟩, fun p => ?_, fun a b h3 h4 => ?_, ?_⟩
  · unfold up2
    split
    · rcases h2 with h2 | h2
      · exact h2
      · omega
    · exact (g1 a ha).1
  · unfold up2
    split
    · rcases h2 with h2 | h2
      · exact h2
      · omega
    · exact (g1 a ha).2
  · unfold up2
    split
    · rcases h2 with h2 | h2
      · exact h2
      · omega
    · exact g2 p
  · unfold up2
    split
    · rcases h2 with h2 | h2
      · exact h2
      · omega
    · exact g3 a b h3 h4
  · unfold up2
    rw [if_neg (by omega)]
    exact g4
theorem Gd.ln {z : Int32} {N : dM} {r j : Nat} {v : Int32} (h : Gd z N) (hr : r < 24) (h3 : j ≠ 3) (h10 : j ≠ 10) : Gd z (up2 N r j v) := h.up (by omega) (Or.inr (Or.inl ⟨hr, h3, h10⟩))
theorem Gd.wv {z : Int32} {N : dM} {r j : Nat} {v : Int32} (h : Gd z N) (hr : ¬ (r = 39 ∧ j = 7)) (hv : w24 v) : Gd z (up2 N r j v) := h.up hr (Or.inl hv)
theorem Gd.hi {z : Int32} {N : dM} {r j : Nat} {v : Int32} (h : Gd z N) (hr : 36 < r) (h7 : ¬ (r = 39 ∧ j = 7)) : Gd z (up2 N r j v) := h.up h7 (Or.inr (Or.inr (Or.inr hr)))
theorem Gd.sw {z : Int32} {N : dM} {r j : Nat} {v : Int32} (h : Gd z N) (hr : 24 ≤ r) (hr2 : r < 32) : Gd z (up2 N r j v) := h.up (by omega) (Or.inr (Or.inr (Or.inl ⟨hr, hr2⟩)))
theorem Gd.m {z : Int32} {N : dM} {r j : Nat} (h : Gd z N) (hr : r < 39) : Gd z (up2 N r j (-1)) := h.wv (by omega) w24_m
theorem Gd.bec0 {z : Int32} {N : dM} {l : Nat} {s : Int32} (h : Gd z N) (hl : l < 24) : Gd z (g_bec0 N l s) := ((h.ln hl (by decide) (by decide)).ln hl (by decide) (by decide)).ln hl (by decide) (by decide)
theorem Gd.bec {z : Int32} {N : dM} {l : Nat} {s : Int32} (h : Gd z N) (hl : l < 24) : Gd z (g_bec N l s) := by
  unfold g_bec
  split
  · exact (((h.bec0 hl).ln hl (by decide) (by decide)).m (by omega)).m (by omega)
  · exact h.bec0 hl
theorem Gd.busy {z : Int32} {N : dM} {l : Nat} (h : Gd z N) (hl : l < 24) : Gd z (g_busy N l) := ((h.bec hl).m (by omega)).m (by omega)
theorem Gd.mark {z : Int32} {N : dM} {a b t : Nat} {w : Int32} (h : Gd z N) (ha : a < 24) (hb : b < 24) : Gd z (f_mark N a b t w) := (h.sw (by omega) (by omega)).sw (by omega) (by omega)
theorem Gd.take {z : Int32} {N : dM} {a b : Nat} (h : Gd z N) (ha : a < 24) (hb : b < 24) : Gd z (f_take N a b) := by
  unfold f_take
  split
  · exact h
  · exact h.mark ha hb
theorem Gd.conn {z : Int32} {N : dM} {c l : Nat} {s : Int32} (h : Gd z N) (hc : c < 24) (hl : l < 24) : Gd z (g_conn N c l s) :=
  (((((((((h.bec hc).bec hl).wv (by omega) (w24_n hl)).wv (by omega) (w24_n hc)).ln hc (by decide) (by decide)).ln hl (by decide) (by decide)).ln hc (by decide) (by decide)).ln hl (by decide) (by decide))).ln hc (by decide) (by decide)
theorem Gd.ot {z : Int32} {N : dM} {l : Nat} (h : Gd z N) (hl : l < 24) : oth N l < 24 := (h.1 l hl).1
theorem Gd.hang {z : Int32} {N : dM} {c l : Nat} (h : Gd z N) (hc : c < 24) (hl : l < 24) : Gd z (g_hang N c l) := (h.mark hc hl).bec hl
theorem Gd.hu {z : Int32} {c : Nat} {b : Int32} (hc : c < 24) : ∀ (n l : Nat) {N : dM}, l + n ≤ 24 → Gd z N → Gd z (huL c b n l N)
  | 0, _, _, _, h => h
  | n + 1, l, N, hn, h => by
    unfold huL
    split
    · exact Gd.hu hc n (l + 1) (by omega) (h.hang hc (by omega))
    · exact Gd.hu hc n (l + 1) (by omega) h
theorem Gd.rg3 {z : Int32} {N : dM} {c l : Nat} {s : Int32} (h : Gd z N) (hc : c < 24) (hl : l < 24) : Gd z (g_rg3 N c l s) :=
  ((((h.bec hl).wv (by omega) (w24_n hc)).ln hl (by decide) (by decide)).ln hl (by decide) (by decide)).hi (by decide) (by decide)
theorem Gd.ring {z : Int32} {N : dM} {c l : Nat} {s : Int32} (h : Gd z N) (hc : c < 24) (hl : l < 24) : Gd z (g_ring N c l s) := by
  unfold g_ring
  split
  · exact h.rg3 hc hl
  · exact (h.rg3 hc hl).bec hc
theorem Gd.blk {z : Int32} {N : dM} {v : Int32} (h : Gd z N) : Gd z (up2 N 39 6 v) := h.hi (by decide) (by decide)
theorem Gd.callLine {z : Int32} {N : dM} {c l : Nat} (h : Gd z N) (hc : c < 24) (hl : l < 24) : Gd z (g_callLine N c l) := by
  unfold g_callLine
  split
  · exact h.busy hc
  · split
    · exact (h.busy hc).ln hc (by decide) (by decide)
    · split
      · exact ((h.take hc hl).blk).busy hc
      · exact (h.take hc hl).ring hc hl
theorem Gd.se {z : Int32} : ∀ (n l : Nat) {N : dM}, l + n ≤ 24 → Gd z N → Gd z (seL n l N)
  | 0, _, _, _, h => h
  | n + 1, l, N, hn, h => by
    have hk : (N l 10).toNatClampNeg < 24 := (h.1 l (by omega)).2
    unfold seL
    split
    · exact Gd.se n (l + 1) (by omega) (((h.m (by omega)).m (by omega)).callLine hk (by omega))
    · exact Gd.se n (l + 1) (by omega) h
theorem Gd.settle {z : Int32} {N : dM} (h : Gd z N) : Gd z (g_settle N) := Gd.se 24 0 (by decide) h
theorem gd_fd {N : dM} : ∀ (n l : Nat) (f : Int32), l + n ≤ 24 → w24 f → w24 (fdL N n l f)
  | 0, _, _, _, h => h
  | n + 1, l, f, hn, h => by
    unfold fdL
    split
    · exact gd_fd n (l + 1) _ (by omega) (w24_n (by omega))
    · exact gd_fd n (l + 1) _ (by omega) h
theorem Gd.pick1 {z : Int32} {N : dM} {q c : Nat} (h : Gd z N) (hq : q < 24) (hc : c < 24) : Gd z (g_pick1 N q c) := by
  have h1 : Gd z (huL q (-1) 24 0 N) := Gd.hu hq 24 0 (by decide) h
  unfold g_pick1
  split
  · exact (((h1.take hq hc).blk).busy hq).busy hc
  · exact (h1.take hq hc).conn hq hc
theorem Gd.pick {z : Int32} {N : dM} {c : Nat} (h : Gd z N) (hc : c < 24) : Gd z (g_pick N c) := by
  have h1 : w24 (fdL N 6 (6 * (c / 6)) (-1)) := gd_fd 6 _ _ (by omega) w24_m
  unfold g_pick
  split
  · exact h.busy hc
  · exact h.pick1 (h.1 _ h1).1 hc
theorem Gd.unpark {z : Int32} {N : dM} {c p : Nat} (h : Gd z N) (hc : c < 24) : Gd z (g_unpark N c p) := by
  have h1 : (N 36 p).toNatClampNeg < 24 := h.2.1 p
  unfold g_unpark
  split
  · exact h.busy hc
  · split
    · exact ((h.take h1 hc).blk).busy hc
    · exact ((h.take h1 hc).m (by decide)).conn h1 hc
theorem Gd.mbr {z : Int32} {N : dM} {g i : Nat} (h : Gd z N) (hg : g < 4) : mb N g i < 24 := h.2.2.1 _ _ (by omega) (by omega)
theorem Gd.cg {z : Int32} {c g : Nat} (hc : c < 24) (hg : g < 4) : ∀ (n k : Nat) {N : dM} (m b : Int32), Gd z N → Gd z (cgL c g n k N m b).1
  | 0, _, _, _, _, h => h
  | n + 1, k, N, m, b, h => by
    unfold cgL
    split
    · split
      · exact Gd.cg hc hg n (k + 1) _ _ h
      · split
        · exact Gd.cg hc hg n (k + 1) _ _ ((h.take hc (h.mbr hg)).ring hc (h.mbr hg))
        · split
          · exact Gd.cg hc hg n (k + 1) _ _ h
          · exact Gd.cg hc hg n (k + 1) _ _ h
    · exact Gd.cg hc hg n (k + 1) _ _ h
theorem Gd.cgEnd {z : Int32} {N : dM} {c g : Nat} {m b : Int32} (h : Gd z N) (hc : c < 24) (hg : g < 4) : Gd z (g_cgEnd N c g m b) := by
  have h1 : Gd z (up2 N (28 + g) 3 b) := h.sw (by omega) (by omega)
  unfold g_cgEnd
  split
  · split
    · exact h.busy hc
    · exact h.blk.busy hc
  · split
    · exact h1
    · exact (h1.take hc (h1.mbr hg)).ring hc (h1.mbr hg)
theorem Gd.callGroup {z : Int32} {N : dM} {c g : Nat} (h : Gd z N) (hc : c < 24) (hg : g < 4) : Gd z (g_callGroup N c g) := (Gd.cg hc hg _ _ _ _ h).cgEnd hc hg
theorem gd_in {x a b : Int32} {k : Nat} (h : g_in x a b = true) (ha : 0 ≤ a.toInt) (hb : b.toInt < 200) (hk : b.toInt - a.toInt = k) : (x - a).toNatClampNeg ≤ k := by
  unfold g_in at h
  have h1 := of_decide_eq_true h
  have h2 : a.toInt ≤ x.toInt := by
    have := h1.1
    rw [Int32.lt_iff_toInt_lt] at this
    omega
  have h3 : x.toInt ≤ b.toInt := by
    have := h1.2
    rw [Int32.lt_iff_toInt_lt] at this
    omega
  have h4 : (x - a).toInt = x.toInt - a.toInt := by
    rw [Int32.toInt_sub]
    rw [Int.bmod_eq_of_le (by omega) (by omega)]
  show (x - a).toInt.toNat ≤ k
  omega
theorem Gd.quiet {z : Int32} {N : dM} {c : Nat} {x : Int32} (h : Gd z N) (hc : c < 24) : Gd z (g_quiet N c x) := by
  unfold g_quiet
  split
  · exact h.ln hc (by decide) (by decide)
  · split
    · exact h.ln hc (by decide) (by decide)
    · exact h
theorem Gd.call {z : Int32} {N : dM} {c : Nat} {x : Int32} (h : Gd z N) (hc : c < 24) : Gd z (g_call N c x) := by
  unfold g_call
  split
  · rename_i h1
    exact h.callLine hc (Nat.lt_of_le_of_lt (gd_in (k := 23) h1 (by decide) (by decide) (by decide)) (by decide))
  · split
    · rename_i h1
      exact h.callGroup hc (Nat.lt_of_le_of_lt (gd_in (k := 3) h1 (by decide) (by decide) (by decide)) (by decide))
    · split
      · exact h.pick hc
      · split
        · exact h.unpark hc
        · exact (h.quiet hc).busy hc
theorem Gd.pay {z : Int32} {N : dM} {l : Nat} (h : Gd z N) (hl : l < 24) : payer N l < 24 := by
  unfold payer
  split
  · exact h.ot hl
  · exact hl
theorem Gd.fin3 {z : Int32} {N : dM} {l m t w k : Nat} {y : Int32} (h : Gd z N) (hl : l < 24) (hm : m < 24) (hk : k < 24) : Gd z (g_fin3 N l m t w k y) := by
  have h1 : Gd z (g_fin1 N l m t w k y) := ((((h.hi (by decide) (by omega)).hi (by decide) (by omega)).hi (by decide) (by omega)).hi (by decide) (by omega)).hi (by decide) (by omega)
  have h2 : Gd z (g_fin2 N l m t w k y) := (h1.ln hk (by decide) (by decide)).mark hl hm
  exact (((((h2.ln hl (by decide) (by decide)).ln hm (by decide) (by decide)).m (by omega)).m (by omega)).m (by omega)).m (by omega)
theorem Gd.fin {z : Int32} {N : dM} {l : Nat} (h : Gd z N) (hl : l < 24) : Gd z (g_fin N l) := h.fin3 hl (h.ot hl) (h.pay hl)
theorem Gd.leave {z : Int32} {N : dM} {l : Nat} (h : Gd z N) (hl : l < 24) : Gd z (g_leave N l) := by
  unfold g_leave
  split
  · exact (h.fin hl).busy (h.ot hl)
  · split
    · exact Gd.hu hl 24 0 (by decide) h
    · split
      · exact h.m (by decide)
      · split
        · exact h.m (Nat.lt_trans (h.ot hl) (by decide))
        · exact h
theorem Gd.gup {z : Int32} {N : dM} {l : Nat} (h : Gd z N) (hl : l < 24) : Gd z (g_up N l) := by
  refine Gd.settle ?_
  unfold g_up0
  split
  · exact h.bec hl
  · exact (Gd.hu (h.ot hl) 24 0 (by decide) h).conn (h.ot hl) hl
theorem Gd.gdown {z : Int32} {N : dM} {l : Nat} (h : Gd z N) (hl : l < 24) : Gd z (g_down N l) := ((h.leave hl).bec hl).settle
theorem Gd.gdigit {z : Int32} {N : dM} {l : Nat} {d : Int32} (h : Gd z N) (hl : l < 24) : Gd z (g_digit N l d) := by
  unfold g_digit
  split
  · exact (h.bec hl).ln hl (by decide) (by decide)
  · split
    · exact (h.call hl).settle
    · exact h
theorem Gd.gcamp {z : Int32} {N : dM} {l : Nat} (h : Gd z N) (hl : l < 24) (h5 : w24 (N l 5)) : Gd z (g_camp N l) := ((h.bec hl).wv (by omega) h5).wv (by omega) (w24_n hl)
theorem Gd.gpark {z : Int32} {N : dM} {l p : Nat} (h : Gd z N) (hl : l < 24) (hp : p < 4) : Gd z (g_park N l p) := ((((h.fin hl).bec (h.ot hl)).wv (by omega) (w24_n (by omega))).wv (by omega) (w24_n (h.ot hl))).busy hl
theorem Gd.gtrans {z : Int32} {N : dM} {l : Nat} {x : Int32} (h : Gd z N) (hl : l < 24) : Gd z (g_trans N l x) := (((h.fin hl).busy hl).call (h.ot hl)).settle
theorem Gd.grestart {z : Int32} {N : dM} {g : Nat} {o : Int32} (h : Gd z N) (hg : g < 4) : Gd z (f_restart N g o) := ((h.sw (by omega) (by omega)).sw (by omega) (by omega)).sw (by omega) (by omega)
theorem Gd.gadd {z : Int32} {N : dM} {g n l : Nat} (h : Gd z N) (hg : g < 4) (hl : l < 24) : Gd z (f_add N g n (nI l)) := (h.wv (by omega) (w24_n hl)).sw (by omega) (by omega)
theorem Gd.gslot {z : Int32} {N : dM} {u t : Nat} {v : Int32} (h : Gd z N) (hu : u < 4) : Gd z (f_slot N u t v) := h.sw (by omega) (by omega)
theorem Gd.watch {z : Int32} {N : dM} {l : Nat} (h : Gd z N) (hl : l < 24) : Gd z (g_watch N l) := by
  unfold g_watch
  split
  · exact h.bec hl
  · split
    · exact ((h.leave hl).busy hl).settle
    · exact h
theorem Gd.wa {z : Int32} : ∀ (n l : Nat) {N : dM}, l + n ≤ 24 → Gd z N → Gd z (waL n l N)
  | 0, _, _, _, h => h
  | n + 1, l, N, hn, h => Gd.wa n (l + 1) (by omega) (h.watch (by omega))
theorem Gd.ti {z : Int32} : ∀ (n : Nat) {N : dM}, Gd z N → Gd z (tiL n N)
  | 0, _, h => h
  | n + 1, N, h => Gd.ti n (Gd.wa 24 0 (by decide) (h.hi (by decide) (by decide)))
theorem Gd.gtick {z : Int32} {N : dM} {x : Int32} (h : Gd z N) : Gd z (g_tick N x) := Gd.ti _ h
theorem Gd.thr {z y : Int32} {N : dM} (h : Gd z N) : Gd y (up2 N 39 7 y) := by
  obtain ⟨g1, g2, g3, g4⟩ := h
  refine ⟨fun a ha => ?_, fun p => ?_, fun a b h3 h4 => ?_, up2_s _ _ _ _⟩
  · rw [up2_r (by omega), up2_r (by omega)]; exact g1 a ha
  · rw [up2_r (by omega)]; exact g2 p
  · rw [up2_r (by omega)]; exact g3 a b h3 h4
theorem Gd.iA : ∀ (n l : Nat) {N : dM}, l + n ≤ 24 → Gd 0 N → Gd 0 (i5A n l N)
  | 0, _, _, _, h => h
  | n + 1, l, N, hn, h => Gd.iA n (l + 1) (by omega) (((((h.ln (by omega) (by decide) (by decide)).m (by omega)).m (by omega)).m (by omega)).m (by omega))
theorem Gd.iB : ∀ (n l : Nat) {N : dM}, l + n ≤ 4 → Gd 0 N → Gd 0 (i5B n l N)
  | 0, _, _, _, h => h
  | n + 1, l, N, hn, h => Gd.iB n (l + 1) (by omega) ((h.m (by omega)).m (by omega))
theorem Gd.iC : ∀ (n l : Nat) {N : dM}, l + n ≤ 32 → Gd 0 N → Gd 0 (i5C n l N)
  | 0, _, _, _, h => h
  | n + 1, l, N, hn, h => Gd.iC n (l + 1) (by omega) (h.m (by omega))
theorem gd_start : Gd 0 nM0 := Gd.iC 32 0 (by decide) (Gd.iB 4 0 (by decide) (Gd.iA 24 0 (by decide) ⟨fun _ _ => ⟨w24_z, w24_z⟩, fun _ => w24_z, fun _ _ _ _ => w24_z, rfl⟩))
