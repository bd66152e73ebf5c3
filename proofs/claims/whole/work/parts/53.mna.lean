theorem pw_apps (cA : Nat → ClassId) (ad : Nat → Nat) (mem cs : pM) : pw cA ad (mem ++ cs) = pw cA ad mem ++ cs.mapIdx (fun i c => (ad (i + mem.length), pe cA ad c)) := by
  unfold pw
  rw [List.mapIdx_append]
theorem pPushL {D : va_G} {cA : Nat → ClassId} {ad : Nat → Nat} {A : Nat → Prop} {s : State} {mem cs : pM} {H H1 : Heap} {locs : List Loc} (hH : pH D cA ad A s mem H locs) (hA : ∀ q : Nat, s.heap.size ≤ q → A q) (had : ∀ j : Nat, mem.length ≤ j → ad j = H.size + (j - mem.length)) (hat : ∀ (i : Nat) (c : pC), cs[i]? = some c → va_at D vwCl (H.size + i, pe cA ad c) H1) (z1 : H.size ≤ H1.size) (o1 : ∀ q, q < H.size → H1[q]? = H[q]?) : pH D cA ad A s (mem ++ cs) H1 locs := by
  obtain ⟨hP, hD, hS⟩ := hH
  have hk : ∀ (k : Nat) (x : Nat × va_E), (pw cA ad mem)[k]? = some x → H1[x.1]? = H[x.1]? := fun k x hx => o1 x.1 ((hP k x hx).lt)
  have hnew : ∀ (i : Nat) (x : Nat × va_E), (cs.mapIdx (fun i c => (ad (i + mem.length), pe cA ad c)))[i]? = some x → ∃ c, cs[i]? = some c ∧ x = (H.size + i, pe cA ad c) := fun i x hx => by
    rw [List.getElem?_mapIdx] at hx
    cases hc : cs[i]? with
    | none => rw [hc] at hx; cases hx
    | some c =>
      rw [hc] at hx
      refine ⟨c, rfl, ?_⟩
      have := Option.some.inj hx
      rw [← this, had (i + mem.length) (by omega), Nat.add_sub_cancel]
  unfold pH
  rw [pw_apps]
  have hl := pw_len cA ad mem
  have hsplit : ∀ (i : Nat) (x : Nat × va_E), (pw cA ad mem ++ cs.mapIdx (fun i c => (ad (i + mem.length), pe cA ad c)))[i]? = some x → (i < mem.length ∧ (pw cA ad mem)[i]? = some x) ∨ (mem.length ≤ i ∧ x.1 = H.size + (i - mem.length)) := fun i x hx => by
    by_cases q : i < mem.length
    · rw [List.getElem?_append_left (by omega)] at hx; exact Or.inl ⟨q, hx⟩
    · rw [List.getElem?_append_right (by omega), hl] at hx
      obtain ⟨c, -, e⟩ := hnew _ _ hx
      exact Or.inr ⟨by omega, by rw [e]⟩
  refine ⟨(hP.kept hk).app (fun k x hx => ?_), ⟨fun i j p q hi hj e => ?_, fun k q hk => ?_⟩, Nat.le_trans hS.1 z1, fun x h1 h2 => (o1 x (Nat.lt_of_lt_of_le h1 hS.1)).trans (hS.2.1 x h1 h2), hS.2.2⟩
  · obtain ⟨c, hc, e⟩ := hnew k x hx
    rw [e]; exact hat k c hc
  · rcases hsplit i p hi with ⟨a1, a2⟩ | ⟨a1, a2⟩ <;> rcases hsplit j q hj with ⟨b1, b2⟩ | ⟨b1, b2⟩
    · exact hD.1 i j p q a2 b2 e
    · have := (hP i p a2).lt; omega
    · have := (hP j q b2).lt; omega
    · omega
  · rcases hsplit k q hk with ⟨a1, a2⟩ | ⟨a1, a2⟩
    · exact hD.2 k q a2
    · rw [a2]; exact hA _ (Nat.le_trans hS.1 (by omega))
def zRow : List Value := List.replicate 8 (.int 0)
theorem pgi_zero (N j : Nat) : pgi (List.replicate N (.int 0)) j = 0 := by
  unfold pgi
  by_cases h : j < N
  · simp [h]
  · simp [h]
theorem pgl_zero (N j : Nat) : pgl (List.replicate N (.long 0)) j = 0 := by
  unfold pgl
  by_cases h : j < N
  · simp [h]
  · simp [h]
def mnC (n : Nat) : pM := [(105, [.ref (n + 1), .ref (n + 2), .ref (n + 3), .ref (n + 4)]), (100, zRow), (100, zRow), (100, zRow), (100, zRow)]
theorem vyR_cell (c : ClassId) : vyR c = vp_cell c (8, .inl (pgi zRow)) := by
  rw [vp_cell_i]
  unfold vyR
  rw [arrV_new]
  exact congrArg (arrV c 8) (funext (fun j => congrArg Value.int (pgi_zero 8 j).symm))
theorem mn_outer {ad : Nat → Nat} {n h : Nat} (hal : ∀ j : Nat, n ≤ j → ad j = h + (j - n)) (c : ClassId) : vyO c h 4 = vp_cell c (4, .inr (.inr (.inr (.inr (pgr ad [.ref (n + 1), .ref (n + 2), .ref (n + 3), .ref (n + 4)]))))) := by
  rw [vyO_arr, vp_cell_q]
  refine congrArg (arrV c 4) (funext (fun j => congrArg va_rf ?_))
  by_cases hj : j < 4
  · rw [if_pos hj]
    rcases (show j = 0 ∨ j = 1 ∨ j = 2 ∨ j = 3 by omega) with rfl | rfl | rfl | rfl
    · show _ = some (ad (n + 1)); rw [hal _ (by omega), show h + (n + 1 - n) = h + 1 + 0 by omega]
    · show _ = some (ad (n + 2)); rw [hal _ (by omega), show h + (n + 2 - n) = h + 1 + 1 by omega]
    · show _ = some (ad (n + 3)); rw [hal _ (by omega), show h + (n + 3 - n) = h + 1 + 2 by omega]
    · show _ = some (ad (n + 4)); rw [hal _ (by omega), show h + (n + 4 - n) = h + 1 + 3 by omega]
  · rw [if_neg hj]
    unfold pgr
    rw [List.getElem?_eq_none (by simp; omega)]
theorem mn_at {D : va_G} {cA : Nat → ClassId} {ad : Nat → Nat} {n h : Nat} {H1 : Heap} (hal : ∀ j : Nat, n ≤ j → ad j = h + (j - n)) (ho : H1[h]? = some (vyO (cA 5) h 4)) (hr : ∀ j, j < 4 → H1[h + 1 + j]? = some (vyR (cA 0))) : ∀ (i : Nat) (c : pC), (mnC n)[i]? = some c → va_at D vwCl (h + i, pe cA ad c) H1 := by
  intro i c hi
  have hlt : i < 5 := (List.getElem?_eq_some_iff.mp hi).1
  have row : ∀ j, j < 4 → va_at D vwCl (h + (j + 1), pe cA ad (100, zRow)) H1 := fun j hj => by
    rw [pe_i]
    show H1[h + (j + 1)]? = some (vp_cell (cA 0) (8, .inl (pgi zRow)))
    rw [← vyR_cell, show h + (j + 1) = h + 1 + j by omega]
    exact hr j hj
  match i, hlt, hi with
  | 0, _, hi =>
    cases hi
    rw [pe_q (by decide)]
    show H1[h]? = some (vp_cell (cA 5) (4, .inr (.inr (.inr (.inr (pgr ad [.ref (n + 1), .ref (n + 2), .ref (n + 3), .ref (n + 4)]))))))
    rw [← mn_outer hal]
    exact ho
  | 1, _, hi => cases hi; exact row 0 (by decide)
  | 2, _, hi => cases hi; exact row 1 (by decide)
  | 3, _, hi => cases hi; exact row 2 (by decide)
  | 4, _, hi => cases hi; exact row 3 (by decide)
section RA3
variable {k : pK} {n0 : Nat} {P : pP} {T : pT} {pc : Nat} {L : pL} {st : List Value} {mem : pM} {cells slots : Nat}
theorem PW.mna {idx : Nat} (d : decode k.cc pc = .ok (.multianewarray idx 2, 4)) (h1 : Cond.classLink k.own idx "[[I" ∈ k.Ts) (h2 : Cond.arrayClass .int ∈ k.Ts) (hm : mem.length = n0 + cells) (hc : cells + 5 ≤ k.R.cells) (hs : slots + 36 ≤ k.R.slots)
    (kk : PW k true n0 P T (pc + 4) L (.ref mem.length :: st) (mem ++ mnC mem.length) (cells + 5) (slots + 36)) : PW k true n0 P T pc L (.int 8 :: .int 4 :: st) mem cells slots := by
  intro p l e s m args below meth c D cA ad A X H locs ls hH hl
  refine pSz X hH hm (fun hal had => ?_)
  intro T9 hT Xs
  have hcc := X.2.1
  obtain ⟨vm₁, c5, c0, f5, f0, XF, step⟩ := vy_multi Xs X.1 X.2.2.2.1 (X.2.2.2.2.1 _ h1) ((X.2.2.2.2.2.2.2.2.2.2.2.1 rfl).1).2.2.1 (X.2.2.2.2.1 _ h2) (g := F0 m pc ls (.int 8 :: .int 4 :: st.map (pz ad))) rfl (by rw [hcc]; exact d) rfl hc hs
  have g5 : s.vm.findClass "[[I" = some (cA 5) := ((X.2.2.2.2.2.2.2.2.1.2.1).2 5 (cA 5, .array .int) rfl).2
  have g0 : s.vm.findClass "[I" = some (cA 0) := ((X.2.2.2.2.2.2.2.2.1.2.1).2 0 (cA 0, .int) rfl).2
  have e5 : c5 = cA 5 := Option.some.inj (f5.symm.trans g5)
  have e0 : c0 = cA 0 := Option.some.inj (f0.symm.trans g0)
  rw [e5, e0] at XF step
  have hTv : (T9.setVm vm₁).heap = H := hT
  obtain ⟨q1, q2, q3, q4⟩ := vyS_is (T9.setVm vm₁) (cA 5) (cA 0) 4
  have qr := vyS_row (T9.setVm vm₁) (cA 5) (cA 0) 4
  have qo := fun (a : Addr) (ha : a < (T9.setVm vm₁).heap.size) => vyS_old (T9.setVm vm₁) (cA 5) (cA 0) ha 4
  generalize vyS (T9.setVm vm₁) (cA 5) (cA 0) 4 = S9 at *
  rw [hTv] at q1 q2 qr qo
  have hp : pH D cA ad A s (mem ++ mnC mem.length) S9.heap locs := pPushL hH X.2.2.2.2.2.2.2.2.2.2.1 hal (mn_at hal q2 qr) (by omega) qo
  obtain ⟨t, a1, b1⟩ := kk p l e s m args below meth c D cA ad A X _ locs ls hp hl _ rfl XF
  refine ⟨t, step t ?_, b1⟩
  rw [List.map_cons, pz_ref, had, ← hT] at a1
  exact a1
end RA3
