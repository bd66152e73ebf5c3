/-- after the end of a talk, at the desk -/
theorem end_rows {M N : dM} {l o : Nat} (h : Rx 24 M N) (hI : Iv 24 M) (hS : Sf M) (hl : l < 24) (h6 : M l 1 = 6) (eo : oth M l = o) :
    (∀ j, f_end M l l j = f_enter (f_end1 M l o (slt M l) (wr M) (payer M l)) l 5 (M 39 5) l j) ∧ (∀ j, f_end M l o j = f_enter (f_end1 M l o (slt M l) (wr M) (payer M l)) o 5 (M 39 5) o j) ∧ (∀ r, r ≠ l → r ≠ o → f_end M l r = f_end1 M l o (slt M l) (wr M) (payer M l) r) ∧ (∀ k, k < 24 → k ≠ l → k ≠ o → f_end M l k = M k) := by
  obtain ⟨e, ho, hlo, en, o6, o3, l3, hk, -⟩ := fin_eq h hI hS hl h6 eo
  have hp : payer M l = l ∨ payer M l = o := by
    unfold payer; rw [eo]; split
    · exact Or.inr rfl
    · exact Or.inl rfl
  have e3 : ∀ r, r ≠ l → r ≠ o → f_end M l r = f_end1 M l o (slt M l) (wr M) (payer M l) r := fun r h1 h2 => funext (fun j => by rw [e, f_enter_r h2, f_enter_r h1])
  refine ⟨fun j => by rw [e, f_enter_r hlo], fun j => ?_, e3, fun k hk9 kl ko => ?_⟩
  · rw [e, f_enter_s, f_enter_s, f_enter_r (Ne.symm hlo)]
  · rw [e3 k kl ko]
    funext j
    rw [end1_row hl ho hk9, if_neg (fun q => by rcases hp with p | p <;> (rw [p] at q; first | exact kl q.1 | exact ko q.1))]
theorem Iv.end {M N : dM} {l : Nat} (h : Rx 24 M N) (hI : Iv 24 M) (hS : Sf M) (hl : l < 24) (h6 : M l 1 = 6) : Iv 24 (f_end M l) := by
  obtain ⟨e, ho, hlo, en, o6, o3, l3, hk, -⟩ := fin_eq h hI hS hl h6 rfl
  obtain ⟨r1, r2, r3, r4⟩ := end_rows h hI hS hl h6 rfl
  generalize oth M l = o at *
  have e39 : f_end M l 39 5 = M 39 5 := by rw [r3 39 (by omega) (by omega)]; exact end1_39 hl ho hk 5
  have e36 : f_end M l 36 = M 36 := by
    rw [r3 36 (by omega) (by omega)]
    funext j
    unfold f_end1
    rw [mark_row hl ho (Or.inr (by decide)), f_write_r (by omega), up2_r (by omega)]
  have e10 : ∀ k, k < 24 → f_end M l k 10 = M k 10 := fun k hk9 => by
    by_cases kl : k = l
    · subst kl; rw [r1, f_enter_s, end1_row hl ho hl]; simp
    · by_cases ko : k = o
      · subst ko; rw [r2, f_enter_s, end1_row hl ho ho]; simp
      · rw [r4 k hk9 kl ko]
  have sl : f_end M l l 1 = 5 := by rw [r1, f_enter_s]; rfl
  have so : f_end M l o 1 = 5 := by rw [r2, f_enter_s]; rfl
  obtain ⟨a1, a2, a3, a4, a5, a6, a7⟩ := hI
  refine ⟨fun k hk9 hx h4 => ?_, fun k hk9 hx k6 => ?_, fun p hp k hk9 hh => ?_, fun k hk9 c hc hh => ?_, fun hx => absurd hx (by omega), by rw [e39]; exact a6, fun k hk9 => ?_⟩
  · by_cases kl : k = l
    · subst kl; rw [sl] at h4; exact absurd h4 (by decide)
    · by_cases ko : k = o
      · subst ko; rw [so] at h4; exact absurd h4 (by decide)
      · rw [r4 k hk9 kl ko] at h4 ⊢
        obtain ⟨p, hp, b1, b2, b3⟩ := a1 k hk9 hx h4
        have b3 := b3.resolve_right (by omega)
        have pl : p ≠ l := fun q => by rw [q, h6] at b3; exact absurd b3 (by decide)
        have po : p ≠ o := fun q => by rw [q, o6] at b3; exact absurd b3 (by decide)
        exact ⟨p, hp, b1, b2, Or.inl (by rw [r4 p hp pl po]; exact b3)⟩
  · by_cases kl : k = l
    · subst kl; rw [sl] at k6; exact absurd k6 (by decide)
    · by_cases ko : k = o
      · subst ko; rw [so] at k6; exact absurd k6 (by decide)
      · rw [r4 k hk9 kl ko] at k6 ⊢
        obtain ⟨p, hp, b0, b1, b2, b3, b4, b5⟩ := a2 k hk9 hx k6
        have pl : p ≠ l := fun q => ko (nI_eq24 hk9 ho (by rw [← b4, q, l3]))
        have po : p ≠ o := fun q => kl (nI_eq24 hk9 hl (by rw [← b4, q, o3]))
        exact ⟨p, hp, b0, b1, b2, by rw [r4 p hp pl po]; exact ⟨b3, b4, b5⟩⟩
  · rw [e36] at hh
    obtain ⟨b0, b1, b2⟩ := a3 p hp k hk9 hh
    have kl : k ≠ l := fun q => by rw [q, h6] at b1; exact absurd b1 (by decide)
    have ko : k ≠ o := fun q => by rw [q, o6] at b1; exact absurd b1 (by decide)
    rw [r4 k hk9 kl ko]; exact ⟨b0, b1, b2⟩
  · rw [e10 k hk9] at hh
    obtain ⟨b0, b1, b2⟩ := a4 k hk9 c hc hh
    have kl : c ≠ l := fun q => by rw [q, h6] at b1; exact absurd b1 (by decide)
    have ko : c ≠ o := fun q => by rw [q, o6] at b1; exact absurd b1 (by decide)
    rw [r4 c hc kl ko]; exact ⟨b0, b1, b2⟩
  · rw [e39]
    by_cases kl : k = l
    · subst kl; rw [r1, f_enter_s]; exact ⟨by show -1 ≤ (M 39 5).toInt; omega, Int.le_refl _⟩
    · by_cases ko : k = o
      · subst ko; rw [r2, f_enter_s]; exact ⟨by show -1 ≤ (M 39 5).toInt; omega, Int.le_refl _⟩
      · rw [r4 k hk9 kl ko]; exact a7 k hk9
/-- the one end is busy in the model too; the other is still to be placed -/
theorem end_one {M N : dM} {l a b : Nat} (h : Rx 24 M N) (hI : Iv 24 M) (hS : Sf M) (hl : l < 24) (h6 : M l 1 = 6) (hab : (a = l ∧ b = oth M l) ∨ (a = oth M l ∧ b = l)) : Rx b (f_end M l) (g_busy (g_fin N l) a) := by
  obtain ⟨e, ho, hlo, en, o6, o3, l3, hk, q1, ⟨l1, l2, l4, l5⟩, ⟨m1, m2, m4, m5⟩, q2⟩ := fin_eq h hI hS hl h6 rfl
  obtain ⟨r1, r2, r3, r4⟩ := end_rows h hI hS hl h6 rfl
  generalize oth M l = o at *
  have e39 : f_end M l 39 5 = M 39 5 := by rw [r3 39 (by omega) (by omega)]; exact end1_39 hl ho hk 5
  have g39 : g_fin N l 39 5 = M 39 5 := by rw [← q2.2.2.1]; exact end1_39 hl ho hk 5
  have R0 : RR (f_end M l) (g_fin N l) := by rw [e]; exact (q2.ex hl EX.enter EX.rfl).ex ho EX.enter EX.rfl
  have fl : f_end M l l = f_enter (f_end1 M l o (slt M l) (wr M) (payer M l)) l 5 (M 39 5) l := funext r1
  have fo : f_end M l o = f_enter (f_end1 M l o (slt M l) (wr M) (payer M l)) o 5 (M 39 5) o := funext r2
  have cw : ∀ (q : Nat) (E : dM), KR (E q) (g_fin N l q) → g_fin N l q 3 = -1 → g_fin N l q 4 = -1 → g_fin N l q 1 = 6 → CW (g_fin N l 39 5) (f_enter E q 5 (M 39 5) q) (g_fin N l q) := fun q E k1 k2 k3 k4 => by
    obtain ⟨w1, w2, w3, w4, w5⟩ := k1
    unfold CW KR
    simp only [f_enter_s]
    simp [w1, w2, w3, w4, w5, k2, k3, k4]
  rcases hab with ⟨rfl, rfl⟩ | ⟨rfl, rfl⟩
  · refine ⟨fun k hk9 kb => ?_, fun _ => ?_, R0.ex hl EX.rfl EX.busy⟩
    · by_cases ka : k = a
      · subst ka; rw [fl]; exact LR_busy hl l1 g39.symm
      · rw [row_ex EX.busy ka, r3 k ka kb]; exact q1 k hk9 ka kb
    · rw [EX.busy 39 5 (by omega), row_ex EX.busy (Ne.symm hlo), fo]; exact cw _ _ m1 m2 m4 m5
  · refine ⟨fun k hk9 kb => ?_, fun _ => ?_, R0.ex ho EX.rfl EX.busy⟩
    · by_cases ka : k = a
      · subst ka; rw [fo]; exact LR_busy ho m1 g39.symm
      · rw [row_ex EX.busy ka, r3 k kb ka]; exact q1 k hk9 kb ka
    · rw [EX.busy 39 5 (by omega), row_ex EX.busy hlo, fl]; exact cw _ _ l1 l2 l4 l5
/-! a line leaves what it is in -/
def Rk (l : Nat) (M N : dM) : Prop := (∀ k, k < 24 → k ≠ l → LR (M k) (N k) ∧ CL (M k)) ∧ KR (M l) (N l) ∧ RR M N
theorem Rk.close {l : Nat} {M N M' N' : dM} (h : Rk l M N) (hl : l < 24) (e1 : EX l M M') (e2 : EX l N N') (hL : LR (M' l) (N' l) ∧ CL (M' l)) : Rx 24 M' N' := by
  refine ⟨fun k hk _ => ?_, fun q => absurd q (by omega), h.2.2.ex hl e1 e2⟩
  by_cases kl : k = l
  · subst kl; exact hL
  · rw [row_ex e1 kl, row_ex e2 kl]; exact h.1 k hk kl
theorem Rk.idle {l : Nat} {M N : dM} {t : Int32} (h : Rk l M N) (hl : l < 24) (ht : t = M 39 5) : Rx 24 (f_enter M l 0 t) (g_bec N l 0) := h.close hl EX.enter EX.bec (LR_idle hl h.2.1 (by rw [ht]; exact h.2.2.2.2.1))
theorem Rk.busy {l : Nat} {M N : dM} {t : Int32} (h : Rk l M N) (hl : l < 24) (ht : t = M 39 5) : Rx 24 (f_enter M l 5 t) (g_busy N l) := h.close hl EX.enter EX.busy (LR_busy hl h.2.1 (by rw [ht]; exact h.2.2.2.2.1))
theorem Rx.rk0 {l : Nat} {M N : dM} (h : Rx 24 M N) (hl : l < 24) (h6 : ¬ M l 1 = 6) : Rk l M N := ⟨fun k hk _ => h.1 k hk (by omega), (h.1 l hl (by omega)).1.kr ((h.1 l hl (by omega)).2.2.2.2 h6), h.2.2⟩
def g_leave (N : dM) (l : Nat) : dM := if N l 1 = 6 then g_busy (g_fin N l) (oth N l) else if N l 1 = 3 then huL l (-1) 24 0 N else if N l 1 = 7 then up2 N 36 (oth N l) (-1) else if N l 1 = 8 then up2 N (oth N l) 10 (-1) else N
theorem leave_eq {M N : dM} {l : Nat} (h : Rx 24 M N) (hI : Iv 24 M) (hS : Sf M) (hl : l < 24) : Rk l (f_leave M l) (g_leave N l) ∧ Iv 24 (f_leave M l) ∧ ND l (f_leave M l) := by
  obtain ⟨hL, hC⟩ := h.1 l hl (by omega)
  have e1 : N l 1 = M l 1 := hL.1.symm
  have e3 : oth N l = oth M l := by rw [oth, oth, hL.2.1]
  unfold f_leave g_leave
  rw [e1]
  by_cases h6 : M l 1 = 6
  · rw [if_pos h6, if_pos h6, e3]
    have r := end_one h hI hS hl h6 (a := oth M l) (b := l) (Or.inr ⟨rfl, rfl⟩)
    have hI2 := Iv.end h hI hS hl h6
    have s5 : f_end M l l 1 = 5 := by rw [(end_rows h hI hS hl h6 rfl).1, f_enter_s]; rfl
    exact ⟨⟨r.1, (r.2.1 hl).1, r.2.2⟩, hI2, nd_cs hI2 hl (Or.inr s5)⟩
  rw [if_neg h6, if_neg h6]
  by_cases h3 : M l 1 = 3
  · rw [if_pos h3, if_pos h3]
    obtain ⟨r1, r2⟩ := stop_eq hl h hI
    have rl : f_stop M l l = M l := stop_row hl (Or.inl hl) (fun q => by rw [h3] at q; exact absurd q.2.1 (by decide))
    have s3 : f_stop M l l 1 = 3 := by rw [rl]; exact h3
    exact ⟨r1.rk0 hl (ne_of_st s3 (by decide)), r2, fun k hk _ k4 => stop_nr hl k hk k4, r2.nd2 hl (ne_of_st s3 (by decide)), r2.nd3 hl (ne_of_st s3 (by decide)), r2.nd4 hl (ne_of_st s3 (by decide))⟩
  rw [if_neg h3, if_neg h3]
  by_cases h7 : M l 1 = 7
  · rw [if_pos h7, if_pos h7, e3]
    obtain ⟨p, hp, l3⟩ := (hS.1 l hl).2.1 h7
    have ep : oth M l = p := by rw [oth, l3, nI_clamp (by omega)]
    rw [ep]
    have r1 := h.plc (p := p) (v := -1)
    have r2 := hI.plc0 (p := p)
    have s7 : up2 M 36 p (-1) l 1 = 7 := by rw [up2_r (by omega)]; exact h7
    refine ⟨r1.rk0 hl (ne_of_st s7 (by decide)), r2, r2.nd1 hl (ne_of_st s7 (by decide)), r2.nd2 hl (ne_of_st s7 (by decide)), fun p' hp' e => ?_, r2.nd4 hl (ne_of_st s7 (by decide))⟩
    by_cases pp : p' = p
    · subst pp; rw [up2_s] at e; exact absurd e.symm (nI_m1 l (by omega))
    · rw [up2_j pp] at e
      exact pp (nI_eq24 (by omega) (by omega) ((hI.2.2.1 p' hp' l hl e).2.2.symm.trans l3))
  rw [if_neg h7, if_neg h7]
  by_cases h8 : M l 1 = 8
  · rw [if_pos h8, if_pos h8, e3]
    obtain ⟨q, hq, l3⟩ := (hS.1 l hl).2.2.1 h8
    have ep : oth M l = q := by rw [oth, l3, nI_clamp (by omega)]
    rw [ep]
    have r1 := h.camp (x := 24) (v := -1) hq
    have r2 := hI.camp0 hq
    have s8 : up2 M q 10 (-1) l 1 = 8 := by rw [up2_j (by decide)]; exact h8
    refine ⟨r1.rk0 hl (ne_of_st s8 (by decide)), r2, r2.nd1 hl (ne_of_st s8 (by decide)), r2.nd2 hl (ne_of_st s8 (by decide)), r2.nd3 hl (ne_of_st s8 (by decide)), fun k hk e => ?_⟩
    by_cases kq : k = q
    · subst kq; rw [up2_s] at e; exact absurd e.symm (nI_m1 l (by omega))
    · rw [up2_r kq] at e
      exact kq (nI_eq24 hk hq ((hI.2.2.2.1 k hk l hl e).2.2.symm.trans l3))
  rw [if_neg h8, if_neg h8]
  exact ⟨h.rk0 hl h6, hI, hI.nd hl (by omega) h3 h6 h7 h8⟩
