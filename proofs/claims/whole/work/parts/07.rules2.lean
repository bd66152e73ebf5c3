/-- a field that the entry idx of own's pool names: kind ci, place j -/
def pF (Ts : List Cond) (own : String) (idx ci j : Nat) : Prop := ∃ (C : String) (Tb : u_T) (N : Nat), ci < 100 ∧ vwCl[ci]? = some (C, Tb, N) ∧ j < N ∧ (∀ w ∈ u_ws C Tb N, w ∈ Ts) ∧ Cond.fieldLink own idx (Tb j).1 (Tb j).2.1 (Tb j).2.2.1 ∈ Ts
/-- such a field can be written: final or not; its type -/
def pFw (own : String) (ci j : Nat) (fin : Bool) (ty : FieldType) : Prop := ∃ (C : String) (Tb : u_T) (N : Nat) (tyk : Nat → FieldType), vwCl[ci]? = some (C, Tb, N) ∧ (∀ q, q < N → parseFieldDescriptor (Tb q).2.2.1 = some (tyk q)) ∧ (∀ a, a < N → ∀ b, b < N → a ≠ b → (Tb a).2.1 ≠ (Tb b).2.1) ∧ (Tb j).2.2.2 = fin ∧ parseFieldDescriptor (Tb j).2.2.1 = some ty ∧ (fin = true → (Tb j).1 = own)
section R2
variable {k : pK} {al : Bool} {n0 : Nat} {P : pP} {T : pT} {pc : Nat} {L : pL} {st : List Value} {mem : pM} {cells slots : Nat}
theorem PW.getf {idx ci j a : Nat} {fs : List Value} {v : Value} (F : pF k.Ts k.own idx ci j) (d : decode k.cc pc = .ok (.getfield idx, 3)) (hm : mem[a]? = some (ci, fs)) (hv : fs[j]? = some v) (kk : PW k al n0 P T (pc + 3) L (v :: st) mem cells slots) : PW k al n0 P T pc L (.ref a :: st) mem cells slots := by
  intro p l e s m args below meth c D cA ad A X H locs ls hH hl
  obtain ⟨C, Tb, N, hci, hc, hj, hin, hlk⟩ := F
  have he := pw_get (cA := cA) (ad := ad) hm
  rw [pe_o hci] at he
  exact va_get (T := Tb) X.1 X.2.1 X.2.2.2.2.1 hin X.2.2.2.1 X.2.2.2.2.2.2.2.2.1.2.1 hH.1 a he hc j hj (X.2.2.2.2.1 _ hlk) (fun _ h => h) (v := pz ad v) (by rw [List.getElem?_map, hv]; rfl) d (kk p l e s m args below meth c D cA ad A X H locs ls hH hl)
theorem PW.putf {idx ci j a : Nat} {fs : List Value} {v : Value} {ty : FieldType} {mem' : pM} (F : pF k.Ts k.own idx ci j) (Fw : pFw k.own ci j false ty) (d : decode k.cc pc = .ok (.putfield idx, 3)) (hm : mem[a]? = some (ci, fs)) (hj9 : j < fs.length) (hn : ∀ ad : Nat → Nat, narrow ty (pz ad v) = pz ad v) (hf : ∀ ad : Nat → Nat, fits ty (pz ad v) = true) (hm' : mem.set a (ci, fs.set j v) = mem') (kk : PW k al n0 P T (pc + 3) L st mem' cells slots) : PW k al n0 P T pc L (v :: .ref a :: st) mem cells slots := by
  intro p l e s m args below meth c D cA ad A X H locs ls hH hl
  obtain ⟨C, Tb, N, hci, hc, hj, hin, hlk⟩ := F
  obtain ⟨C2, Tb2, N2, tyk, hc2, hty, hnm, hfin, hd, -⟩ := Fw
  cases Option.some.inj (hc.symm.trans hc2)
  have he := pw_get (cA := cA) (ad := ad) hm
  rw [pe_o hci] at he
  refine va_put (T := Tb) X.1 X.2.1 X.2.2.2.2.1 hin tyk hty hnm X.2.2.2.1 X.2.2.2.2.2.2.2.2.1.2.1 hH.1 hH.2.1 hH.2.2 a he hc j hj (X.2.2.2.2.1 _ hlk) (fun _ h => h) hfin hd (hn ad) (hf ad) (by rw [List.length_map]; exact hj9) d (fun H1 locs1 hP1 hD1 hS1 => ?_)
  rw [pmap_set, ← pe_o (cA := cA) hci, pw_set hm, hm'] at hP1 hD1
  exact kk p l e s m args below meth c D cA ad A X H1 locs1 ls ⟨hP1, hD1, hS1⟩ hl
theorem PW.iald {i : Int32} {n a : Nat} {fs : List Value} {x : Int32} (d : decode k.cc pc = .ok (.iaload, 1)) (hm : mem[a]? = some (100, fs)) (hi : i = nI n) (hn : n < 2 ^ 31) (hv : fs[n]? = some (.int x)) (kk : PW k al n0 P T (pc + 1) L (.int x :: st) mem cells slots) : PW k al n0 P T pc L (.int i :: .ref a :: st) mem cells slots := by
  intro p l e s m args below meth c D cA ad A X H locs ls hH hl
  have he := pw_get (cA := cA) (ad := ad) hm
  rw [pe_i] at he
  have hlt : n < fs.length := (List.getElem?_eq_some_iff.mp hv).1
  subst hi
  have hx : pgi fs (nI n).toNatClampNeg = x := by rw [nI_clamp hn]; simp [pgi, hv]
  have hin : vp_in (nI n) fs.length := fun h => by
    rcases h with h | h
    · exact nI_pos hn h
    · rw [nI_clamp hn] at h; omega
  refine va_iald X.1 X.2.1 X.2.2.2.2.2.2.2.2.1.2.1 hH.1 a 0 he rfl hin d ?_
  rw [hx]
  exact kk p l e s m args below meth c D cA ad A X H locs ls hH hl
theorem PW.zald {i : Int32} {n a : Nat} {fs : List Value} {x : Int32} (d : decode k.cc pc = .ok (.baload, 1)) (hm : mem[a]? = some (102, fs)) (hi : i = nI n) (hn : n < 2 ^ 31) (hv : fs[n]? = some (.int x)) (kk : PW k al n0 P T (pc + 1) L (.int x :: st) mem cells slots) : PW k al n0 P T pc L (.int i :: .ref a :: st) mem cells slots := by
  intro p l e s m args below meth c D cA ad A X H locs ls hH hl
  have he := pw_get (cA := cA) (ad := ad) hm
  rw [pe_z] at he
  have hlt : n < fs.length := (List.getElem?_eq_some_iff.mp hv).1
  subst hi
  have hx : pgi fs (nI n).toNatClampNeg = x := by rw [nI_clamp hn]; simp [pgi, hv]
  have hin : vp_in (nI n) fs.length := fun h => by
    rcases h with h | h
    · exact nI_pos hn h
    · rw [nI_clamp hn] at h; omega
  refine va_zald X.1 X.2.1 X.2.2.2.2.2.2.2.2.1.2.1 hH.1 a 2 he rfl hin d ?_
  rw [hx]
  exact kk p l e s m args below meth c D cA ad A X H locs ls hH hl
theorem PW.lald {i : Int32} {n a : Nat} {fs : List Value} {x : Int64} (d : decode k.cc pc = .ok (.laload, 1)) (hm : mem[a]? = some (101, fs)) (hi : i = nI n) (hn : n < 2 ^ 31) (hv : fs[n]? = some (.long x)) (kk : PW k al n0 P T (pc + 1) L (.long x :: st) mem cells slots) : PW k al n0 P T pc L (.int i :: .ref a :: st) mem cells slots := by
  intro p l e s m args below meth c D cA ad A X H locs ls hH hl
  have he := pw_get (cA := cA) (ad := ad) hm
  rw [pe_l] at he
  have hlt : n < fs.length := (List.getElem?_eq_some_iff.mp hv).1
  subst hi
  have hx : pgl fs (nI n).toNatClampNeg = x := by rw [nI_clamp hn]; simp [pgl, hv]
  have hin : vp_in (nI n) fs.length := fun h => by
    rcases h with h | h
    · exact nI_pos hn h
    · rw [nI_clamp hn] at h; omega
  refine va_lald X.1 X.2.1 X.2.2.2.2.2.2.2.2.1.2.1 hH.1 a 1 he rfl hin d ?_
  rw [hx]
  exact kk p l e s m args below meth c D cA ad A X H locs ls hH hl
theorem PW.iast {i : Int32} {n a : Nat} {fs : List Value} {x : Int32} {mem' : pM} (d : decode k.cc pc = .ok (.iastore, 1)) (hm : mem[a]? = some (100, fs)) (hi : i = nI n) (hn : n < 2 ^ 31) (hlt : n < fs.length) (hm' : mem.set a (100, fs.set n (.int x)) = mem') (kk : PW k al n0 P T (pc + 1) L st mem' cells slots) : PW k al n0 P T pc L (.int x :: .int i :: .ref a :: st) mem cells slots := by
  intro p l e s m args below meth c D cA ad A X H locs ls hH hl
  have he := pw_get (cA := cA) (ad := ad) hm
  rw [pe_i] at he
  subst hi
  have hin : vp_in (nI n) fs.length := fun h => by
    rcases h with h | h
    · exact nI_pos hn h
    · rw [nI_clamp hn] at h; omega
  refine va_iast X.1 X.2.1 X.2.2.2.2.2.2.2.2.1.2.1 hH.1 hH.2.1 hH.2.2 a 0 he rfl hin d (fun H1 locs1 hP1 hD1 hS1 => ?_)
  have e2 : (Sum.inl (cA 0, fs.length, Sum.inl (upd (pgi fs) (nI n).toNatClampNeg x)) : va_E) = pe cA ad (100, fs.set n (.int x)) := by
    rw [nI_clamp hn, pgi_set hlt, pe_i, List.length_set]
  rw [e2, pw_set hm, hm'] at hP1 hD1
  exact kk p l e s m args below meth c D cA ad A X H1 locs1 ls ⟨hP1, hD1, hS1⟩ hl
theorem PW.zast {i : Int32} {n a : Nat} {fs : List Value} {x : Int32} {mem' : pM} (d : decode k.cc pc = .ok (.bastore, 1)) (hm : mem[a]? = some (102, fs)) (hi : i = nI n) (hn : n < 2 ^ 31) (hlt : n < fs.length) (hx : vp_nar .boolean x = x) (hm' : mem.set a (102, fs.set n (.int x)) = mem') (kk : PW k al n0 P T (pc + 1) L st mem' cells slots) : PW k al n0 P T pc L (.int x :: .int i :: .ref a :: st) mem cells slots := by
  intro p l e s m args below meth c D cA ad A X H locs ls hH hl
  have he := pw_get (cA := cA) (ad := ad) hm
  rw [pe_z] at he
  subst hi
  have hin : vp_in (nI n) fs.length := fun h => by
    rcases h with h | h
    · exact nI_pos hn h
    · rw [nI_clamp hn] at h; omega
  refine va_zast X.1 X.2.1 X.2.2.2.2.2.2.2.2.1.2.1 hH.1 hH.2.1 hH.2.2 a 2 he rfl hin d (fun H1 locs1 hP1 hD1 hS1 => ?_)
  have e2 : (Sum.inl (cA 2, fs.length, Sum.inl (upd (pgi fs) (nI n).toNatClampNeg (vp_nar .boolean x))) : va_E) = pe cA ad (102, fs.set n (.int x)) := by
    rw [nI_clamp hn, hx, pgi_set hlt, pe_z, List.length_set]
  rw [e2, pw_set hm, hm'] at hP1 hD1
  exact kk p l e s m args below meth c D cA ad A X H1 locs1 ls ⟨hP1, hD1, hS1⟩ hl
theorem PW.last {i : Int32} {n a : Nat} {fs : List Value} {x : Int64} {mem' : pM} (d : decode k.cc pc = .ok (.lastore, 1)) (hm : mem[a]? = some (101, fs)) (hi : i = nI n) (hn : n < 2 ^ 31) (hlt : n < fs.length) (hm' : mem.set a (101, fs.set n (.long x)) = mem') (kk : PW k al n0 P T (pc + 1) L st mem' cells slots) : PW k al n0 P T pc L (.long x :: .int i :: .ref a :: st) mem cells slots := by
  intro p l e s m args below meth c D cA ad A X H locs ls hH hl
  have he := pw_get (cA := cA) (ad := ad) hm
  rw [pe_l] at he
  subst hi
  have hin : vp_in (nI n) fs.length := fun h => by
    rcases h with h | h
    · exact nI_pos hn h
    · rw [nI_clamp hn] at h; omega
  refine va_last X.1 X.2.1 X.2.2.2.2.2.2.2.2.1.2.1 hH.1 hH.2.1 hH.2.2 a 1 he rfl hin d (fun H1 locs1 hP1 hD1 hS1 => ?_)
  have e2 : (Sum.inl (cA 1, fs.length, Sum.inr (Sum.inl (vp_updL (pgl fs) (nI n).toNatClampNeg x))) : va_E) = pe cA ad (101, fs.set n (.long x)) := by
    rw [nI_clamp hn, pgl_set hlt, pe_l, List.length_set]
  rw [e2, pw_set hm, hm'] at hP1 hD1
  exact kk p l e s m args below meth c D cA ad A X H1 locs1 ls ⟨hP1, hD1, hS1⟩ hl
/-- a reference out of an array of references: kind t, its type by the table -/
theorem PW.aald {i : Int32} {n a q t : Nat} {fs : List Value} {ty : FieldType} (d : decode k.cc pc = .ok (.aaload, 1)) (hm : mem[a]? = some (t, fs)) (ht : 102 < t) (hty : ∀ cA : Nat → ClassId, (ptys cA)[t - 100]? = some (cA (t - 100), ty)) (hr : ty.isReference = true) (hi : i = nI n) (hn : n < 2 ^ 31) (hv : fs[n]? = some (.ref q)) (kk : PW k al n0 P T (pc + 1) L (.ref q :: st) mem cells slots) : PW k al n0 P T pc L (.int i :: .ref a :: st) mem cells slots := by
  intro p l e s m args below meth c D cA ad A X H locs ls hH hl
  have he := pw_get (cA := cA) (ad := ad) hm
  rw [pe_q ht] at he
  have hlt : n < fs.length := (List.getElem?_eq_some_iff.mp hv).1
  subst hi
  have hx : va_rf (pgr ad fs n) = .ref (ad q) := by simp [pgr, hv, va_rf]
  have hin : vp_in (nI n) fs.length := fun h => by
    rcases h with h | h
    · exact nI_pos hn h
    · rw [nI_clamp hn] at h; omega
  have hK := (X.2.2.2.2.2.2.2.2.1.2.1).2 _ _ (hty cA)
  refine W.aald (v := .ref (ad q)) (ty := ty) X.1 X.2.1 (hH.1 a _ he) (hK.1 fs.length (fun j => va_rf (pgr ad fs j))) hr (fun h => by cases h) (by show ¬ (nI n < 0 ∨ (arrV _ _ _).slots.size ≤ _); rw [arrV_size]; exact hin) (by show (arrV _ _ _).slots[_]? = _; rw [nI_clamp hn, arrV_read _ _ hlt]; exact congrArg some hx) rfl rfl d ?_
  exact kk p l e s m args below meth c D cA ad A X H locs ls hH hl
theorem PW.alen {a t : Nat} {fs : List Value} {v : Int32} {ty : FieldType} (d : decode k.cc pc = .ok (.arraylength, 1)) (hm : mem[a]? = some (t, fs)) (ht : 100 ≤ t) (hty : ∀ cA : Nat → ClassId, (ptys cA)[t - 100]? = some (cA (t - 100), ty)) (hv : nI fs.length = v) (kk : PW k al n0 P T (pc + 1) L (.int v :: st) mem cells slots) : PW k al n0 P T pc L (.ref a :: st) mem cells slots := by
  intro p l e s m args below meth c D cA ad A X H locs ls hH hl
  have he := pw_get (cA := cA) (ad := ad) hm
  have h1 : ∃ x : vp_A, pe cA ad (t, fs) = .inl (cA (t - 100), x) ∧ x.1 = fs.length := by
    by_cases h0 : t = 100
    · subst h0; rw [pe_i]; exact ⟨_, rfl, rfl⟩
    · by_cases h1 : t = 101
      · subst h1; rw [pe_l]; exact ⟨_, rfl, rfl⟩
      · by_cases h2 : t = 102
        · subst h2; rw [pe_z]; exact ⟨_, rfl, rfl⟩
        · rw [pe_q (by omega)]; exact ⟨_, rfl, rfl⟩
  obtain ⟨x, e1, e2⟩ := h1
  rw [e1] at he
  exact va_alen X.1 X.2.1 X.2.2.2.2.2.2.2.2.1.2.1 hH.1 a _ he (hty cA) (by rw [e2]; exact hv) d (kk p l e s m args below meth c D cA ad A X H locs ls hH hl)
theorem PW.iret {v : Int32} (d : decode k.cc pc = .ok (.ireturn, 1)) (hr : k.ret = some .int) (hp : P (some (.int v)) mem) (h1 : cells ≤ k.mc) (h2 : slots ≤ k.ms) : PW k al n0 P T pc L [.int v] mem cells slots := by
  intro p l e s m args below meth c D cA ad A X H locs ls hH hl
  refine W.widen h1 h2 (vx_ret ?_)
  exact W.iret (v := v) X.1 X.2.1 (X.2.2.2.2.2.2.1.trans hr) (fun t ht hW => ⟨⟨some (.int v), mem, hp, rfl, by rw [ht]; exact hH.1, hH.2.1⟩, hH.2.2.F ht⟩) hH.2.2.2.2 d X.2.2.2.2.2.1
theorem PW.zret {v : Int32} {ty : FieldType} (d : decode k.cc pc = .ok (.ireturn, 1)) (hr : k.ret = some ty) (hn : narrow ty (.int v) = .int v) (hp : P (some (.int v)) mem) (h1 : cells ≤ k.mc) (h2 : slots ≤ k.ms) : PW k al n0 P T pc L [.int v] mem cells slots := by
  intro p l e s m args below meth c D cA ad A X H locs ls hH hl
  refine W.widen h1 h2 (vx_ret ?_)
  exact W.zret (v := v) X.1 X.2.1 (X.2.2.2.2.2.2.1.trans hr) hn (fun t ht hW => ⟨⟨some (.int v), mem, hp, rfl, by rw [ht]; exact hH.1, hH.2.1⟩, hH.2.2.F ht⟩) hH.2.2.2.2 d X.2.2.2.2.2.1
theorem PW.vret (d : decode k.cc pc = .ok (.return_, 1)) (hr : k.ret = none) (hp : P none mem) (h1 : cells ≤ k.mc) (h2 : slots ≤ k.ms) : PW k al n0 P T pc L [] mem cells slots := by
  intro p l e s m args below meth c D cA ad A X H locs ls hH hl
  refine W.widen h1 h2 (vx_ret ?_)
  exact W.vret X.1 X.2.1 (X.2.2.2.2.2.2.1.trans hr) (fun t ht hW => ⟨⟨none, mem, hp, rfl, by rw [ht]; exact hH.1, hH.2.1⟩, hH.2.2.F ht⟩) hH.2.2.2.2 d X.2.2.2.2.2.1
theorem PW.aret {v : Value} {n : String} (d : decode k.cc pc = .ok (.areturn, 1)) (hr : k.ret = some (.object n)) (hv : v = .null ∨ ∃ a, v = .ref a) (hp : P (some v) mem) (h1 : cells ≤ k.mc) (h2 : slots ≤ k.ms) : PW k al n0 P T pc L [v] mem cells slots := by
  intro p l e s m args below meth c D cA ad A X H locs ls hH hl
  refine W.widen h1 h2 (vx_ret ?_)
  exact W.aret (v := pz ad v) X.1 X.2.1 (X.2.2.2.2.2.2.1.trans hr) (Or.inl ⟨n, rfl⟩) (by rcases hv with rfl | ⟨a, rfl⟩; exact Or.inl rfl; exact Or.inr ⟨_, rfl⟩) (fun t ht hW => ⟨⟨some v, mem, hp, rfl, by rw [ht]; exact hH.1, hH.2.1⟩, hH.2.2.F ht⟩) hH.2.2.2.2 d X.2.2.2.2.2.1
/-- two references: by their numbers, where the cells are there -/
theorem PW.acmp_ne {a b : Nat} {off : Int} {tgt : Nat} {x y : pC} (d : decode k.cc pc = .ok (.if_acmp .ne off, 3)) (ht : (pc : Int) + off = (tgt : Int)) (ha : mem[a]? = some x) (hb : mem[b]? = some y) (kt : ¬ a = b → PW k al n0 P T tgt L st mem cells slots) (kf : a = b → PW k al n0 P T (pc + 3) L st mem cells slots) : PW k al n0 P T pc L (.ref b :: .ref a :: st) mem cells slots := by
  intro p l e s m args below meth c D cA ad A X H locs ls hH hl
  refine lv_acmp_ne (rx := some (ad a)) (ry := some (ad b)) X.1 X.2.1 d ht (fun h => ?_) (fun h => ?_)
  · exact kt (fun q => h (by rw [q])) p l e s m args below meth c D cA ad A X H locs ls hH hl
  · exact kf (hH.2.1.1 a b _ _ (pw_get ha) (pw_get hb) (Option.some.inj h)) p l e s m args below meth c D cA ad A X H locs ls hH hl
theorem PW.acmp_eq {a b : Nat} {off : Int} {tgt : Nat} {x y : pC} (d : decode k.cc pc = .ok (.if_acmp .eq off, 3)) (ht : (pc : Int) + off = (tgt : Int)) (ha : mem[a]? = some x) (hb : mem[b]? = some y) (kt : a = b → PW k al n0 P T tgt L st mem cells slots) (kf : ¬ a = b → PW k al n0 P T (pc + 3) L st mem cells slots) : PW k al n0 P T pc L (.ref b :: .ref a :: st) mem cells slots := by
  intro p l e s m args below meth c D cA ad A X H locs ls hH hl
  refine lv_acmp_eq (rx := some (ad a)) (ry := some (ad b)) X.1 X.2.1 d ht (fun h => ?_) (fun h => ?_)
  · exact kt (hH.2.1.1 a b _ _ (pw_get ha) (pw_get hb) (Option.some.inj h)) p l e s m args below meth c D cA ad A X H locs ls hH hl
  · exact kf (fun q => h (by rw [q])) p l e s m args below meth c D cA ad A X H locs ls hH hl
end R2
