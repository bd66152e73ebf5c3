/-! THE LAW'S OWN STEPS: longs, the script, handlers, calls of methods with handlers -/
section VZ3
variable {p : Program} {l : Launch} {e : Env} {R : Room} {s : State} {m : MethodId} {args : Array Value} {below : List Frame} {meth : Method} {c : Code} {H : Heap} {locs : List Loc} {cells slots : Nat} {Q : State → Prop} {pc : Nat} {ls : Array Slot} {rest : List Value} {cc : ByteArray}
theorem vz_lcmpE (hexec : p.tables.exec = Jvm.exec) (hb : c.code = cc) {a : Int64} (hdg : decode cc pc = .ok (.lcmp, 1)) (k : W p l e R s m args below meth c H locs cells slots Q (F0 m (pc + 1) ls (.int 0 :: rest))) : W p l e R s m args below meth c H locs cells slots Q (F0 m pc ls (.long a :: .long a :: rest)) := by
  intro T hT X
  obtain ⟨t, a1, b1⟩ := k T hT X
  refine ⟨t, ?_, b1⟩
  jvm_step X.here [X.here.top, hexec, hb, hdg]
  exact a1
end VZ3
theorem plo_storeN {ad : Nat → Nat} {ls ls' : Array Slot} {nL : Nat} {L : pL} {i q : Nat} (h : plo ad ls nL L) (h' : lv_has ls' nL ((i, Value.ref q) :: (pas ad L).filter (fun q => !(q.1 == i) && !(q.1 + 1 == i && q.2.category == 2)))) : plo ad ls' nL (L.set i none) := by
  refine ⟨h'.1, h'.2.1, fun j w hj => ?_⟩
  by_cases hji : j = i
  · subst hji
    have hl : j < (L.set j none).length := (List.getElem?_eq_some_iff.mp hj).1
    rw [List.getElem?_set_self (by simpa using hl)] at hj
    cases hj
  · rw [List.getElem?_set_ne (Ne.symm hji)] at hj
    obtain ⟨-, hw⟩ := h.2.2 j w hj
    refine ⟨h'.2.2 (j, pz ad w) (List.mem_cons_of_mem _ (List.mem_filter.mpr ⟨pas_in hj, ?_⟩)), hw⟩
    simp [hji, pz_cat, hw]
/-- the script: an array of ints outside the cells -/
def scG (b Ls : Nat) (xs : Nat → Int32) : pG := fun s _ A => va_X b Ls xs s s.heap ∧ b < s.heap.size ∧ ¬ A b
section PL1
variable {k : pK} {al : Bool} {n0 : Nat} {P : pP} {T : pT} {pc : Nat} {L : pL} {st : List Value} {mem : pM} {cells slots : Nat}
theorem PW.i2l {x : Int32} (d : decode k.cc pc = .ok (.i2l, 1)) (kk : PW k al n0 P T (pc + 1) L (.long x.toInt64 :: st) mem cells slots) : PW k al n0 P T pc L (.int x :: st) mem cells slots :=
  fun p l e s m args below meth c D cA ad A X H locs ls hH hl => lv_i2l X.1 X.2.1 d rfl (kk p l e s m args below meth c D cA ad A X H locs ls hH hl)
theorem PW.lcmpE {x y : Int64} (d : decode k.cc pc = .ok (.lcmp, 1)) (hxy : x = y) (kk : PW k al n0 P T (pc + 1) L (.int 0 :: st) mem cells slots) : PW k al n0 P T pc L (.long y :: .long x :: st) mem cells slots := by
  subst hxy
  exact fun p l e s m args below meth c D cA ad A X H locs ls hH hl => vz_lcmpE X.1 X.2.1 d (kk p l e s m args below meth c D cA ad A X H locs ls hH hl)
theorem PW.aload_nA {j : Fin 4} {i b : Nat} (d : decode k.cc pc = .ok (.aload_n j, 1)) (hi : (j : Nat) = i) (hL : L[i]? = some (some (.retAddr b))) (kk : PW k al n0 P T (pc + 1) L (.retAddr b :: st) mem cells slots) : PW k al n0 P T pc L st mem cells slots :=
  fun p l e s m args below meth c D cA ad A X H locs ls hH hl => lv_aload_n X.1 X.2.1 d hi (hl.2.2 _ _ hL).1 (kk p l e s m args below meth c D cA ad A X H locs ls hH hl)
theorem PW.sld {b Ls : Nat} {xs : Nat → Int32} {i : Int32} {n : Nat} {x : Int32} (hG : k.G = scG b Ls xs) (d : decode k.cc pc = .ok (.iaload, 1)) (hi : i = nI n) (hn : n < 2 ^ 31) (hlt : n < Ls) (hv : xs n = x) (kk : PW k al n0 P T (pc + 1) L (.int x :: st) mem cells slots) : PW k al n0 P T pc L (.int i :: .retAddr b :: st) mem cells slots := by
  intro p l e s m args below meth c D cA ad A X H locs ls hH hl
  have hg := X.2.2.2.2.2.2.2.2.2.2.2.2
  rw [hG] at hg
  subst hi
  have hin : vp_in (nI n) Ls := fun h => by
    rcases h with h | h
    · exact nI_pos hn h
    · rw [nI_clamp hn] at h; omega
  refine va_sld X.1 X.2.1 hg.1 hg.2.1 hg.2.2 hH.2.2 hin d ?_
  rw [nI_clamp hn, hv]
  exact kk p l e s m args below meth c D cA ad A X H locs ls hH hl
theorem PW.slen {b Ls : Nat} {xs : Nat → Int32} (hG : k.G = scG b Ls xs) (d : decode k.cc pc = .ok (.arraylength, 1)) (kk : PW k al n0 P T (pc + 1) L (.int (nI Ls) :: st) mem cells slots) : PW k al n0 P T pc L (.retAddr b :: st) mem cells slots := by
  intro p l e s m args below meth c D cA ad A X H locs ls hH hl
  have hg := X.2.2.2.2.2.2.2.2.2.2.2.2
  rw [hG] at hg
  exact va_slen X.1 X.2.1 hg.1 hg.2.1 hg.2.2 hH.2.2 d (kk p l e s m args below meth c D cA ad A X H locs ls hH hl)
theorem PW.still (kk : PW k false n0 P T pc L st mem cells slots) : PW k true n0 P T pc L st mem cells slots :=
  fun p l e s m args below meth c D cA ad A X H locs ls hH hl => kk p l e s m args below meth c D cA ad A ⟨X.1, X.2.1, X.2.2.1, X.2.2.2.1, X.2.2.2.2.1, X.2.2.2.2.2.1, X.2.2.2.2.2.2.1, X.2.2.2.2.2.2.2.1, X.2.2.2.2.2.2.2.2.1, X.2.2.2.2.2.2.2.2.2.1, X.2.2.2.2.2.2.2.2.2.2.1, (fun h => by cases h), X.2.2.2.2.2.2.2.2.2.2.2.2⟩ H locs ls hH hl
theorem PT.catch1n {E : String} {x : ExceptionTableEntry} {suf : List ExceptionTableEntry} {j : Fin 4} {i hp : Nat} {L' : pL} (hh : k.hh = x :: suf) (hx : covers x pc = true) (h0 : x.catchType ≠ 0) (hw : Cond.classLink k.own x.catchType E ∈ k.Ts) (hE : E ∈ pEx) (hp9 : x.handlerPc = hp) (d : decode k.cc hp = .ok (.astore_n j, 1)) (hi : (j : Nat) = i) (hn : i < k.nL) (hL : L.set i none = L')
    (kk : PW k al n0 P T (hp + 1) L' [] mem cells slots) : PT k al n0 P T E pc L st mem cells slots := by
  intro p l e s m args below meth c D cA ad A X H locs ls hP hD hS hl q ce hce hcv hcl
  refine vz_catch1 (own := k.own) (E := E) X.2.2.2.1 (X.2.2.2.2.2.2.2.1.trans hh) hx h0 (X.2.2.2.2.1 _ hw) (va_Nw.use rfl (X.2.2.2.2.2.2.2.2.1.2.2.1 E hE)) hce hcv hcl ?_
  rw [hp9]
  exact lv_astore_n X.1 X.2.1 d hi (plo_has hl) hn rfl (fun ls' h' => kk p l e s m args below meth c D cA ad A X H locs ls' ⟨hP, hD, hS⟩ (by rw [← hL]; exact plo_storeN hl h'))
theorem PT.catch1 {E : String} {x : ExceptionTableEntry} {suf : List ExceptionTableEntry} {i hp : Nat} {L' : pL} (hh : k.hh = x :: suf) (hx : covers x pc = true) (h0 : x.catchType ≠ 0) (hw : Cond.classLink k.own x.catchType E ∈ k.Ts) (hE : E ∈ pEx) (hp9 : x.handlerPc = hp) (d : decode k.cc hp = .ok (.astore i, 2)) (hn : i < k.nL) (hL : L.set i none = L')
    (kk : PW k al n0 P T (hp + 2) L' [] mem cells slots) : PT k al n0 P T E pc L st mem cells slots := by
  intro p l e s m args below meth c D cA ad A X H locs ls hP hD hS hl q ce hce hcv hcl
  refine vz_catch1 (own := k.own) (E := E) X.2.2.2.1 (X.2.2.2.2.2.2.2.1.trans hh) hx h0 (X.2.2.2.2.1 _ hw) (va_Nw.use rfl (X.2.2.2.2.2.2.2.2.1.2.2.1 E hE)) hce hcv hcl ?_
  rw [hp9]
  exact lv_astore X.1 X.2.1 d (plo_has hl) hn rfl (fun ls' h' => kk p l e s m args below meth c D cA ad A X H locs ls' ⟨hP, hD, hS⟩ (by rw [← hL]; exact plo_storeN hl h'))
theorem PT.catch2n {E : String} {x y : ExceptionTableEntry} {suf : List ExceptionTableEntry} {j : Fin 4} {i hp : Nat} {L' : pL} (hh : k.hh = x :: y :: suf) (hx : covers x pc = true) (h0 : x.catchType ≠ 0) (hw1 : Cond.classLink k.own x.catchType "java/lang/IllegalArgumentException" ∈ k.Ts) (hy : covers y pc = true) (hy0 : y.catchType ≠ 0) (hw : Cond.classLink k.own y.catchType E ∈ k.Ts) (hE : E ∈ pEx) (hE2 : E ∈ pEy) (hp9 : y.handlerPc = hp) (d : decode k.cc hp = .ok (.astore_n j, 1)) (hi : (j : Nat) = i) (hn : i < k.nL) (hL : L.set i none = L')
    (kk : PW k al n0 P T (hp + 1) L' [] mem cells slots) : PT k al n0 P T E pc L st mem cells slots := by
  intro p l e s m args below meth c D cA ad A X H locs ls hP hD hS hl q ce hce hcv hcl
  refine vz_catch2 (own := k.own) (E := E) X.2.2.2.1 (X.2.2.2.2.2.2.2.1.trans hh) hx h0 (X.2.2.2.2.1 _ hw1) (X.2.2.2.2.2.2.2.2.1.2.2.2.2.2 E hE2) hy hy0 (X.2.2.2.2.1 _ hw) (va_Nw.use rfl (X.2.2.2.2.2.2.2.2.1.2.2.1 E hE)) hce hcv hcl ?_
  rw [hp9]
  exact lv_astore_n X.1 X.2.1 d hi (plo_has hl) hn rfl (fun ls' h' => kk p l e s m args below meth c D cA ad A X H locs ls' ⟨hP, hD, hS⟩ (by rw [← hL]; exact plo_storeN hl h'))
theorem PT.catch2 {E : String} {x y : ExceptionTableEntry} {suf : List ExceptionTableEntry} {i hp : Nat} {L' : pL} (hh : k.hh = x :: y :: suf) (hx : covers x pc = true) (h0 : x.catchType ≠ 0) (hw1 : Cond.classLink k.own x.catchType "java/lang/IllegalArgumentException" ∈ k.Ts) (hy : covers y pc = true) (hy0 : y.catchType ≠ 0) (hw : Cond.classLink k.own y.catchType E ∈ k.Ts) (hE : E ∈ pEx) (hE2 : E ∈ pEy) (hp9 : y.handlerPc = hp) (d : decode k.cc hp = .ok (.astore i, 2)) (hn : i < k.nL) (hL : L.set i none = L')
    (kk : PW k al n0 P T (hp + 2) L' [] mem cells slots) : PT k al n0 P T E pc L st mem cells slots := by
  intro p l e s m args below meth c D cA ad A X H locs ls hP hD hS hl q ce hce hcv hcl
  refine vz_catch2 (own := k.own) (E := E) X.2.2.2.1 (X.2.2.2.2.2.2.2.1.trans hh) hx h0 (X.2.2.2.2.1 _ hw1) (X.2.2.2.2.2.2.2.2.1.2.2.2.2.2 E hE2) hy hy0 (X.2.2.2.2.1 _ hw) (va_Nw.use rfl (X.2.2.2.2.2.2.2.2.1.2.2.1 E hE)) hce hcv hcl ?_
  rw [hp9]
  exact lv_astore X.1 X.2.1 d (plo_has hl) hn rfl (fun ls' h' => kk p l e s m args below meth c D cA ad A X H locs ls' ⟨hP, hD, hS⟩ (by rw [← hL]; exact plo_storeN hl h'))
theorem PW.callSW {idx n : Nat} {y : MethodName} {k' : pK} {as : List Value} {P' : pP} {T' : pT} {ws' : List Cond} {hhl : List (Nat × Nat × Nat × Nat)} (M : ∀ l : Launch, pMet l y k' false as mem P' T') (d : decode k.cc pc = .ok (.invokestatic idx, 3)) (g : GoodIn k.Ts (va_wsS k.own idx y k'.Ts)) (hw : k'.Ts = Cond.codeWith y k'.cc k'.nL k'.ret hhl :: ws')
    (hd : y.cls ≠ "java/lang/invoke/MethodHandle" ∧ y.cls ≠ "java/lang/invoke/VarHandle" ∧ (parseMethodDescriptor y.desc).map (fun d => d.parameters.length) = some n) (hn : as.length = n) (hR : k'.R.frames + 1 ≤ k.R.frames ∧ 8 + (k'.nL + 11) + k'.R.locals ≤ k.R.locals) (hcs : k'.R.cells = k'.mc ∧ k'.R.slots = k'.ms) (hst : (st.map fun v => v.category).sum ≤ 8) (hf : cells + k'.mc ≤ k.R.cells ∧ slots + k'.ms ≤ k.R.slots)
    {st0 : List Value} (hs0 : as.reverse ++ st = st0) (kk : ∀ (v : Option Value) (mem' : pM), P' v mem' → PW k al n0 P T (pc + 3) L (v.toList ++ st) mem' (cells + k'.mc) (slots + k'.ms)) (kx : ∀ (E : String) (mem' : pM), T' E mem' → PT k al n0 P T E pc L st mem' (cells + k'.mc) (slots + k'.ms)) : PW k al n0 P T pc L st0 mem cells slots := by
  intro p l e s m args below meth c D cA ad A X H locs ls hH hl
  subst hs0
  refine pCall X hH hl (vx_runSX (hh := hhl) (bytes := k'.cc) (maxL := k'.nL) (ret := k'.ret) (As := as.map (pz ad)) (rest := st.map (pz ad)) ⟨X.1, X.2.1, X.2.2.1, X.2.2.2.1, X.2.2.2.2.1⟩ (M l D cA ad H.size) (vx_cwSW n X.2.2.2.2.1 g hw hcs.1 hcs.2 hd hR) ⟨pBlind, fun U hU hW => ⟨rfl, pAt X hH hU hW (fun h => by cases h)⟩⟩ rfl (by rw [List.length_map]; exact hn) hl.1 (by rw [List.map_append, List.map_reverse]) (lv_room (by rw [pz_cats]; exact hst)) d hf) kk kx
end PL1
theorem pMet.ofH {l : Launch} {y : MethodName} {k : pK} {as : List Value} {mem : pM} {P : pP} {T : pT} {ws' : List Cond} {hhl : List (Nat × Nat × Nat × Nat)} (hy : plainName y.cls = true) (hw : k.Ts = Cond.codeWith y k.cc k.nL k.ret hhl :: ws') (hown : y.cls = k.own) (hhh : k.hh = tableOf hhl) (hc : ∀ v ∈ as, v.category = 1) (hn : as.length ≤ k.nL) (body : PW k false mem.length P T 0 (pEn as k.nL) [] mem 0 0) (hG : ∀ (U : State) (ad : Nat → Nat) (A : Nat → Prop), k.G U ad A := by exact fun _ _ _ => trivial) : pMet l y k false as mem P T := by
  intro D cA ad sz
  refine vx_ofWH (cc := k.cc) (maxL := k.nL) (ret := k.ret) hy hw ?_
  intro p e s m args below meth c s₁ B hml hv
  obtain ⟨rfl, hsz, hV, hZ, hP, hD0, hal⟩ := hv
  subst hsz
  have hD := hD0.self (sz := s.heap.size)
  have hown' : s.vm.findClass k.own = some m.cls := by rw [← hown]; exact findClass_of_methodNamed B.named
  have htab : c.exceptionTable.toList = k.hh := by
    rw [hhh]
    exact vx_table (x := y) B (atoms_spec (ws := k.Ts) B.pre _ (by rw [hw]; exact List.mem_cons_self))
  rw [lg_entry_eq]
  exact body p l e s m _ below meth c D cA ad _ ⟨B.exec, B.bytes, hml, hown', atoms_spec (ws := k.Ts) B.pre, B.notSynchronized, B.returns, htab, hV, hZ, fun q h => Or.inr h, (fun h => by cases h), hG _ _ _⟩ s.heap [] _ ⟨hP, hD, va_S.rf⟩ (pEn_lo hc hn)
