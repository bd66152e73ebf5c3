/-! 5: park -/
def g_park (N : dM) (l p : Nat) : dM := g_busy (up2 (up2 (g_bec (g_fin N l) (oth N l) 7) (oth N l) 3 (nI p)) 36 p (nI (oth N l))) l
theorem busy_park {F : dM} {l o p : Nat} {v w : Int32} (hl : l < 24) (ho : o < 24) (hlo : l ≠ o) : g_busy (up2 (up2 (g_bec F o 7) o 3 v) 36 p w) l = up2 (up2 (g_bec (g_busy F l) o 7) o 3 v) 36 p w := by
  have hol := Ne.symm hlo
  funext r j
  by_cases rl : r = l
  · subst rl
    rw [busy_s hl, up2_r (show r ≠ 36 by omega), up2_r (show r ≠ o from hlo), EX.bec r j hlo, up2_r (show (39 : Nat) ≠ 36 by decide), up2_r (show (39 : Nat) ≠ o by omega), EX.bec 39 5 (by omega), up2_r (show r ≠ 36 by omega), up2_r (show r ≠ o from hlo), EX.bec r j hlo, busy_s hl]
  · rw [EX.busy r j rl]
    by_cases ro : r = o
    · subst ro
      rw [up2_r (show r ≠ 36 by omega), up2_r (show r ≠ 36 by omega)]
      by_cases h3 : j = 3
      · subst h3; rw [up2_s, up2_s]
      · rw [up2_j h3, up2_j h3, becS_s ho (by decide), becS_s ho (by decide), EX.busy 39 5 (by omega), EX.busy r j rl]
    · have e : ∀ X : dM, up2 (up2 (g_bec X o 7) o 3 v) 36 p w r j = if r = 36 ∧ j = p then w else X r j := fun X => by
        by_cases q : r = 36 ∧ j = p
        · rw [if_pos q, q.1, q.2, up2_s]
        · rw [if_neg q, show up2 (up2 (g_bec X o 7) o 3 v) 36 p w r j = up2 (g_bec X o 7) o 3 v r j by simp only [up2, if_neg q], up2_r ro, EX.bec r j ro]
      rw [e, e, EX.busy r j rl]
theorem Iv.plc1 {p o : Nat} {M : dM} (h : Iv 24 M) (ho : o < 24) (h7 : M o 1 = 7) (h3 : M o 3 = nI p) : Iv 24 (up2 M 36 p (nI o)) := by
  have er : ∀ l, l ≠ 36 → up2 M 36 p (nI o) l = M l := fun l hl => funext (fun j => up2_r hl)
  obtain ⟨a1, a2, a3, a4, a5, a6, a7⟩ := h
  refine ⟨fun l hl hx h4 => ?_, fun l hl hx h6 => ?_, fun q hq l hl h => ?_, fun l hl c hc h => ?_, fun hx => absurd hx (by omega), by rw [er 39 (by omega)]; exact a6, fun l hl => by rw [er l (by omega), er 39 (by omega)]; exact a7 l hl⟩
  · rw [er l (by omega)] at h4 ⊢
    obtain ⟨o, ho, b1, b2, b3⟩ := a1 l hl hx h4
    exact ⟨o, ho, b1, b2, by rw [er o (by omega)]; exact b3⟩
  · rw [er l (by omega)] at h6 ⊢
    obtain ⟨o, ho, b1, b2, b3⟩ := a2 l hl hx h6
    exact ⟨o, ho, b1, b2, by rw [er o (by omega)]; exact b3⟩
  · rw [er l (by omega)]
    by_cases qp : q = p
    · subst qp
      rw [up2_s] at h
      have : o = l := nI_eq24 ho hl h
      subst this
      exact ⟨by omega, h7, h3⟩
    · rw [up2_j qp] at h
      exact a3 q hq l hl h
  · rw [er l (by omega)] at h
    rw [er c (by omega)]; exact a4 l hl c hc h
theorem end_st {M N : dM} {l k : Nat} (h : Rx 24 M N) (hI : Iv 24 M) (hS : Sf M) (hl : l < 24) (h6 : M l 1 = 6) (hk : k < 24) (h0 : f_end M l k 1 = 0) : M k 1 = 0 ∧ f_end M l k 10 = M k 10 := by
  obtain ⟨r1, r2, r3, r4⟩ := end_rows h hI hS hl h6 rfl
  by_cases kl : k = l
  · subst kl; rw [r1, f_enter_s] at h0; exact absurd (show (5 : Int32) = 0 from h0) (by decide)
  · by_cases ko : k = oth M l
    · subst ko; rw [r2, f_enter_s] at h0; exact absurd (show (5 : Int32) = 0 from h0) (by decide)
    · rw [r4 k hk kl ko] at h0 ⊢; exact ⟨h0, rfl⟩
theorem park_eq {n l p : Nat} {M N : dM} (hn : n < 100000) (h : Ok n M N) (hl : l < 24) (hp : p < 4) (h6 : M l 1 = 6) : Ok (n + 1) (f_park M l p) (g_park N l p) := by
  obtain ⟨hR, hV⟩ := h
  obtain ⟨hS, hI, hs, a4, a5⟩ := id hV
  obtain ⟨-, ho, hlo, en, o6, o3, l3, hk, -⟩ := fin_eq hR hI hS hl h6 rfl
  have r := end_one hR hI hS hl h6 (a := l) (b := oth M l) (Or.inl ⟨rfl, rfl⟩)
  have hI2 := Iv.end hR hI hS hl h6
  have so : f_end M l (oth M l) 1 = 5 := by rw [(end_rows hR hI hS hl h6 rfl).2.1, f_enter_s]; rfl
  have e5 : f_end M l 39 5 = M 39 5 := t_end hS hl h6
  have e37 := end_37 hR hI hS hl h6
  have hest := fun k => end_st (k := k) hR hI hS hl h6
  have hS2 := hS.end hl h6
  unfold f_park g_park
  rw [en]
  generalize oth M l = o at *
  rw [busy_park hl ho hlo]
  generalize hE : f_end M l = E at *
  generalize hF : g_busy (g_fin N l) l = F at *
  have r2 : Rx 24 (up2 (f_enter E o 7 (E 39 5)) o 3 (nI p)) (up2 (g_bec F o 7) o 3 (nI p)) := by
    refine r.close ho (EX.enter.trans EX.up) (EX.bec.trans EX.up) ?_
    obtain ⟨⟨w1, w2, w3, w4, w5⟩, w6, w7, -⟩ := r.2.1 ho
    unfold LR CL
    simp only [up2, true_and, f_enter_s, becS_s ho (by decide : ¬ (7 : Int32) = 0)]
    simp [w1, w2, w3, w4, w5, w7, r.2.2.2.2.1]
  have e7 : ∀ j, j ≠ 3 → up2 (f_enter E o 7 (E 39 5)) o 3 (nI p) o j = f_enter E o 7 (E 39 5) o j := fun j hj => up2_j hj
  have s7 : up2 (f_enter E o 7 (E 39 5)) o 3 (nI p) o 1 = 7 := by rw [e7 1 (by decide), f_enter_s]; rfl
  have i2 : Iv 24 (up2 (f_enter E o 7 (E 39 5)) o 3 (nI p)) := by
    refine hI2.row ho (nd_cs hI2 ho (Or.inr so)) (fun r j _ hn => by rw [up2_r hn, f_enter_r hn]) ?_ (fun _ q => ?_) ?_ (fun q => absurd q (by omega)) ?_
    · rw [e7 10 (by decide), f_enter_s]; rfl
    · rw [s7] at q; exact absurd q (by decide)
    · rw [s7]; decide
    · rw [e7 2 (by decide), f_enter_s]; exact hI2.now
  have sf : Sf (up2 (f_enter E o 7 (E 39 5)) o 3 (nI p)) := by
    refine hS2.line (l := o) (fun r j hr _ => by rw [up2_r hr, f_enter_r hr]) ho ?_
    unfold lnOK
    rw [s7, up2_s, e7 10 (by decide), e7 5 (by decide), f_enter_s, f_enter_s]
    exact ⟨fun q => by rcases q with q | q <;> exact absurd q (by decide), fun _ => ⟨p, hp, rfl⟩, fun q => absurd q (by decide), (hS2.1 o ho).2.2.2.1, Or.inl rfl⟩
  refine ⟨r2.plc, hV.fr1 hn ?_ (Or.inr ?_) (sf.plc (Or.inr ⟨o, ho, rfl⟩)) (i2.plc1 ho s7 (up2_s _ _ _ _)) (fun k hk k0 => ?_)⟩
  · rw [up2_r (by omega), up2_r (by omega), f_enter_r (by omega)]; exact e5
  · rw [up2_r (by omega), up2_r (by omega), f_enter_r (by omega)]; exact e37
  · rw [up2_r (by omega)] at k0 ⊢
    by_cases ko : k = o
    · subst ko; rw [s7] at k0; exact absurd k0 (by decide)
    · rw [up2_r ko, f_enter_r ko] at k0 ⊢
      obtain ⟨b1, b2⟩ := hest k hk k0
      rw [b2]; exact hs k hk b1
/-! 6: transfer -/
def g_trans (N : dM) (l : Nat) (x : Int32) : dM := g_settle (g_call (g_busy (g_fin N l) l) (oth N l) x)
theorem trans_eq {n l : Nat} {M N : dM} {x : Int32} (hn : n < 100000) (h : Ok n M N) (hl : l < 24) (h6 : M l 1 = 6) : Ok (n + 1) (f_trans M l x) (g_trans N l x) ∧ oth N l = oth M l ∧ oth M l < 24 := by
  obtain ⟨hR, hV⟩ := h
  obtain ⟨hS, hI, hs, a4, a5⟩ := id hV
  obtain ⟨-, ho, hlo, en, o6, o3, l3, hk, -⟩ := fin_eq hR hI hS hl h6 rfl
  have r := end_one hR hI hS hl h6 (a := l) (b := oth M l) (Or.inl ⟨rfl, rfl⟩)
  have hI2 := Iv.end hR hI hS hl h6
  have so : f_end M l (oth M l) 1 = 5 := by rw [(end_rows hR hI hS hl h6 rfl).2.1, f_enter_s]; rfl
  have e5 : f_end M l 39 5 = M 39 5 := t_end hS hl h6
  have e37 := end_37 hR hI hS hl h6
  have hS2 := hS.end hl h6
  refine ⟨?_, en, ho⟩
  unfold f_trans g_trans
  rw [en]
  obtain ⟨b1, b2⟩ := call_eq (x := x) r hI2 hS2 (by rw [e5]; exact hV.time (by omega)) (Or.inr so) ho
  have hS3 := hS2.call (x := x) ho
  obtain ⟨c1, c2⟩ := settle_eq 24 0 _ _ rfl b1 b2 hS3
  have f1 : Fr (f_end M l) (f_camps (f_call (f_end M l) (oth M l) x)) := (Fr.call hS2 ho).trans (Fr.camps hS3)
  exact ⟨c1, hV.fr1 hn (f1.1.trans e5) (Or.inr (f1.2.trans e37)) hS3.camps c2 (St.camps hS3)⟩
/-! 7: groups and slots -/
theorem grp_row {M : dM} {g r : Nat} {o : Int32} (hr : r ≠ 28 + g) : f_restart M g o r = M r := funext (fun j => by unfold f_restart; rw [up2_r hr, up2_r hr, up2_r hr])
theorem restart_eq {n g : Nat} {M N : dM} {o : Int32} (h : Ok n M N) (hg : g < 4) : Ok (n + 1) (f_restart M g o) (f_restart N g o) := by
  obtain ⟨hR, hV⟩ := h
  obtain ⟨hS, hI, hs, a4, a5⟩ := id hV
  have e3 : ∀ X : dM, f_restart X g o (28 + g) 3 = -1 := fun X => up2_s _ _ _ _
  have e2 : ∀ X : dM, f_restart X g o (28 + g) 2 = o := fun X => by unfold f_restart; rw [up2_j (by decide), up2_s]
  have e1 : ∀ X : dM, f_restart X g o (28 + g) 1 = 0 := fun X => by unfold f_restart; rw [up2_j (by decide), up2_j (by decide), up2_s]
  have ej : ∀ (X : dM) j, j ≠ 1 → j ≠ 2 → j ≠ 3 → f_restart X g o (28 + g) j = X (28 + g) j := fun X j h1 h2 h3 => by unfold f_restart; rw [up2_j h3, up2_j h2, up2_j h1]
  refine ⟨⟨fun l hl hx => ?_, fun q => absurd q (by omega), fun r j a b c => ?_, fun q hq ho => ?_, ?_, ?_⟩, hV.fr ⟨by rw [grp_row (by omega)], by rw [grp_row (by omega)]⟩ ⟨fun l hl => by rw [grp_row (by omega)]; exact hS.1 l hl, fun p hp => by rw [grp_row (by omega)]; exact hS.2.1 p hp, fun q hq => ?_⟩ (hI.same (fun r j hr => by rw [grp_row (by omega)])) (fun k hk => by rw [grp_row (by omega)]; exact hs k hk)⟩
  · rw [grp_row (by omega), grp_row (by omega)]; exact hR.1 l hl hx
  · by_cases rg : r = 28 + g
    · subst rg
      by_cases j1 : j = 1
      · subst j1; rw [e1, e1]
      · by_cases j2 : j = 2
        · subst j2; rw [e2, e2]
        · rw [ej _ j j1 j2 (by omega), ej _ j j1 j2 (by omega)]; exact hR.2.2.1 _ j a b c
    · rw [grp_row rg, grp_row rg]; exact hR.2.2.1 r j a b c
  · by_cases qg : q = g
    · subst qg; rw [e3, e3]
    · rw [grp_row (by omega)] at ho
      rw [grp_row (by omega), grp_row (by omega)]; exact hR.2.2.2.1 q hq ho
  · rw [grp_row (by omega), grp_row (by omega)]; exact hR.2.2.2.2.1
  · rw [grp_row (by omega), grp_row (by omega)]; exact hR.2.2.2.2.2
  · by_cases qg : q = g
    · subst qg
      have en : grN (f_restart M q o) q = 0 := by rw [grN, e1]; rfl
      have es : grS (f_restart M q o) q = 0 := by rw [grS, e3]; rfl
      unfold grOK
      rw [en, es, e1, e3]
      exact ⟨rfl, by decide, fun i hi => absurd hi (by omega), rfl, by decide⟩
    · exact (hS.2.2 q hq).to (fun j => by rw [grp_row (by omega)]) (fun j => by rw [grp_row (by omega)])
theorem add_row {M : dM} {g n r : Nat} {x : Int32} (h1 : r ≠ 28 + g) (h2 : r ≠ 32 + g) : f_add M g n x r = M r := funext (fun j => by unfold f_add; rw [up2_r h1, up2_r h2])
theorem add_at (M : dM) (g n : Nat) (x : Int32) (r j : Nat) : f_add M g n x r j = if r = 28 + g ∧ j = 1 then nI (n + 1) else if r = 32 + g ∧ j = n then x else M r j := Eq.refl _
theorem add_eq {n g m : Nat} {M N : dM} (h : Ok n M N) (hg : g < 4) (hm : m < 24) (h6 : grN M g < 6) : Ok (n + 1) (f_add M g (grN M g) (nI m)) (f_add N g (grN M g) (nI m)) := by
  obtain ⟨hR, hV⟩ := h
  obtain ⟨hS, hI, hs, a4, a5⟩ := id hV
  refine ⟨⟨fun l hl hx => ?_, fun q => absurd q (by omega), fun r j a b c => ?_, fun q hq ho => ?_, ?_, ?_⟩, hV.fr ⟨by rw [add_row (by omega) (by omega)], by rw [add_row (by omega) (by omega)]⟩ ⟨fun l hl => by rw [add_row (by omega) (by omega)]; exact hS.1 l hl, fun p hp => by rw [add_row (by omega) (by omega)]; exact hS.2.1 p hp, fun q hq => ?_⟩ (hI.same (fun r j hr => by rw [add_row (by omega) (by omega)])) (fun k hk => by rw [add_row (by omega) (by omega)]; exact hs k hk)⟩
  · rw [add_row (by omega) (by omega), add_row (by omega) (by omega)]; exact hR.1 l hl hx
  · rw [add_at, add_at]
    repeat' split
    all_goals first | rfl | exact hR.2.2.1 r j a b c
  · rw [add_at, if_neg (by omega), if_neg (by omega)] at ho
    rw [add_at, add_at, if_neg (by omega), if_neg (by omega), if_neg (by omega), if_neg (by omega)]; exact hR.2.2.2.1 q hq ho
  · rw [add_row (by omega) (by omega), add_row (by omega) (by omega)]; exact hR.2.2.2.2.1
  · rw [add_row (by omega) (by omega), add_row (by omega) (by omega)]; exact hR.2.2.2.2.2
  · by_cases qg : q = g
    · subst qg
      obtain ⟨b1, b2, b3, b4, b5⟩ := hS.2.2 q hq
      have e1 : f_add M q (grN M q) (nI m) (28 + q) 1 = nI (grN M q + 1) := up2_s _ _ _ _
      have en : grN (f_add M q (grN M q) (nI m)) q = grN M q + 1 := by rw [grN, e1, nI_clamp (by omega)]
      have e3 : f_add M q (grN M q) (nI m) (28 + q) 3 = M (28 + q) 3 := by rw [add_at, if_neg (by omega), if_neg (by omega)]
      have es : grS (f_add M q (grN M q) (nI m)) q = grS M q := by rw [grS, grS, e3]
      unfold grOK
      rw [en, es, e1, e3]
      refine ⟨rfl, by omega, fun i hi => ?_, b4, b5⟩
      unfold mb
      rw [add_at, if_neg (by omega)]
      by_cases ie : i = grN M q
      · rw [if_pos ⟨rfl, ie⟩, nI_clamp (by omega)]; exact ⟨rfl, hm⟩
      · rw [if_neg (fun z => ie z.2)]; exact b3 i (by omega)
    · exact (hS.2.2 q hq).to (fun j => by rw [add_row (by omega) (by omega)]) (fun j => by rw [add_row (by omega) (by omega)])
theorem slot_eq {n u t : Nat} {M N : dM} {v : Int32} (h : Ok n M N) (hu : u < 4) : Ok (n + 1) (up2 M (24 + u) t v) (up2 N (24 + u) t v) := by
  obtain ⟨hR, hV⟩ := h
  obtain ⟨hS, hI, hs, a4, a5⟩ := id hV
  have er : ∀ (X : dM) r, r < 24 ∨ 28 ≤ r → up2 X (24 + u) t v r = X r := fun X r hr => funext (fun j => up2_r (by omega))
  refine ⟨⟨fun l hl hx => ?_, fun q => absurd q (by omega), fun r j a b c => ?_, fun q hq ho => ?_, ?_, ?_⟩, hV.fr ⟨by rw [er _ 39 (by omega)], by rw [er _ 37 (by omega)]⟩ (hS.lines (fun r j h1 h2 => by rw [er _ r (by omega)]) (fun l hl => by rw [er _ l (by omega)]; exact hS.1 l hl)) (hI.same (fun r j hr => by rw [er _ r (by omega)])) (fun k hk => by rw [er _ k (by omega)]; exact hs k hk)⟩
  · rw [er _ l (by omega), er _ l (by omega)]; exact hR.1 l hl hx
  · unfold up2
    split
    · rfl
    · exact hR.2.2.1 r j a b c
  · rw [er _ _ (by omega)] at ho
    rw [er _ _ (by omega), er _ _ (by omega)]; exact hR.2.2.2.1 q hq ho
  · rw [er _ 39 (by omega), er _ 39 (by omega)]; exact hR.2.2.2.2.1
  · rw [er _ 39 (by omega), er _ 39 (by omega)]; exact hR.2.2.2.2.2
