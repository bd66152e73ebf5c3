/-! MAKING CELLS: the next cell's number is the next address -/
theorem pw_app (cA : Nat → ClassId) (ad : Nat → Nat) (mem : pM) (c : pC) : pw cA ad (mem ++ [c]) = pw cA ad mem ++ [(ad mem.length, pe cA ad c)] := by
  unfold pw
  rw [List.mapIdx_append]
  simp
theorem pw_len (cA : Nat → ClassId) (ad : Nat → Nat) (mem : pM) : (pw cA ad mem).length = mem.length := by simp [pw]
theorem pSize {k : pK} {n0 : Nat} {p : Program} {l : Launch} {e : Env} {s : State} {m : MethodId} {args : Array Value} {below : List Frame} {meth : Method} {c : Code} {D : va_G} {cA : Nat → ClassId} {ad : Nat → Nat} {A : Nat → Prop} {mem : pM} {H : Heap} {locs : List Loc} {R : Room} {cells slots : Nat} (X : pX k true n0 p l s m args meth c D cA ad A) (hH : pH D cA ad A s mem H locs) (hm : mem.length = n0 + cells) {T : State} (hT : T.heap = H) (Xs : Stand p l e R s m args below meth c T locs cells slots) : (∀ j : Nat, mem.length ≤ j → ad j = H.size + (j - mem.length)) ∧ ad mem.length = H.size := by
  have h1 := Xs.heapSize
  rw [hT] at h1
  have h0 := hH.2.2.1
  have hal := (X.2.2.2.2.2.2.2.2.2.2.2.1 rfl).2.2
  have hsz : H.size = s.heap.size + cells := by
    rcases Nat.eq_zero_or_pos cells with q | q
    · omega
    · have hlt : mem.length - 1 < mem.length := by omega
      have hg := pw_get (cA := cA) (ad := ad) (List.getElem?_eq_getElem hlt)
      have h2 := (hH.1 _ _ hg).lt
      have h3 := hal (mem.length - 1) (by omega)
      have h4 : ad (mem.length - 1) < H.size := h2
      omega
  refine ⟨fun j hj => ?_, ?_⟩
  · rw [hal j (by omega), hsz]; omega
  · rw [hal mem.length (by omega), hsz]; omega
theorem pSz {k : pK} {n0 : Nat} {p : Program} {l : Launch} {e : Env} {s : State} {m : MethodId} {args : Array Value} {below : List Frame} {meth : Method} {c : Code} {D : va_G} {cA : Nat → ClassId} {ad : Nat → Nat} {A : Nat → Prop} {mem : pM} {H : Heap} {locs : List Loc} {R : Room} {cells slots : Nat} {Q : State → Prop} {g : JFrame} (X : pX k true n0 p l s m args meth c D cA ad A) (hH : pH D cA ad A s mem H locs) (hm : mem.length = n0 + cells) (kk : (∀ j : Nat, mem.length ≤ j → ad j = H.size + (j - mem.length)) → ad mem.length = H.size → W p l e R s m args below meth c H locs cells slots Q g) : W p l e R s m args below meth c H locs cells slots Q g := by
  intro T hT Xs
  obtain ⟨a, b⟩ := pSize X hH hm hT Xs
  exact kk a b T hT Xs
theorem pPush {D : va_G} {cA : Nat → ClassId} {ad : Nat → Nat} {A : Nat → Prop} {s : State} {mem : pM} {H H1 : Heap} {locs : List Loc} {c : pC} (hH : pH D cA ad A s mem H locs) (hA : ∀ q : Nat, s.heap.size ≤ q → A q) (had : ad mem.length = H.size) (hat : va_at D vwCl (H.size, pe cA ad c) H1) (z1 : H.size ≤ H1.size) (o1 : ∀ q, q < H.size → H1[q]? = H[q]?) : pH D cA ad A s (mem ++ [c]) H1 locs := by
  obtain ⟨hP, hD, hS⟩ := hH
  have hk : ∀ (k : Nat) (x : Nat × va_E), (pw cA ad mem)[k]? = some x → H1[x.1]? = H[x.1]? := fun k x hx => o1 x.1 ((hP k x hx).lt)
  unfold pH
  rw [pw_app, had]
  refine ⟨(hP.kept hk).app (fun k x hx => ?_), hD.push hP rfl (hA _ hS.1), Nat.le_trans hS.1 z1, fun x h1 h2 => (o1 x (Nat.lt_of_lt_of_le h1 hS.1)).trans (hS.2.1 x h1 h2), hS.2.2⟩
  have hz : k < 1 := (List.getElem?_eq_some_iff.mp hx).1
  rw [show k = 0 by omega] at hx
  cases hx
  exact hat
section RA1
variable {k : pK} {n0 : Nat} {P : pP} {T : pT} {pc : Nat} {L : pL} {st : List Value} {mem : pM} {cells slots : Nat}
theorem PW.newo {idx ci N : Nat} {C : String} {Tb : u_T} {fs : List Value} {tyk : Nat → FieldType} (d : decode k.cc pc = .ok (.new idx, 3)) (h1 : Cond.classLink k.own idx C ∈ k.Ts) (h2 : Cond.instantiable C N ∈ k.Ts) (h3 : Cond.initialized C ∈ k.Ts) (hC : vwCl[ci]? = some (C, Tb, N)) (hci : ci < 100) (hin : ∀ w ∈ u_ws C Tb N, w ∈ k.Ts) (hty : ∀ q, q < N → parseFieldDescriptor (Tb q).2.2.1 = some (tyk q)) (hfs : ∀ j, j < N → defaultValue (tyk j) = vp_V fs j) (hz : ∀ ad : Nat → Nat, fs.map (pz ad) = fs) (hm : mem.length = n0 + cells) (hc : cells + 1 ≤ k.R.cells) (hs : slots + N ≤ k.R.slots)
    (kk : PW k true n0 P T (pc + 3) L (.ref mem.length :: st) (mem ++ [(ci, fs)]) (cells + 1) (slots + N)) : PW k true n0 P T pc L st mem cells slots := by
  intro p l e s m args below meth c D cA ad A X H locs ls hH hl
  refine pSz X hH hm (fun _ had => ?_)
  have hKn := (X.2.2.2.2.2.2.2.2.1.2.1).1 ci _ hC
  refine W.newcK X.1 X.2.1 X.2.2.2.1 (X.2.2.2.2.1 _ h1) (X.2.2.2.2.1 _ h2) (X.2.2.2.2.1 _ h3) rfl d hc hs hKn.2.1 rfl (fun H1 kC hkC e1 z1 o1 => ?_)
  have hp : pH D cA ad A s (mem ++ [(ci, fs)]) H1 locs := by
    refine pPush hH X.2.2.2.2.2.2.2.2.2.2.1 had ?_ (by omega) o1
    rw [pe_o hci, hz]
    exact ⟨_, hC, (u_born tyk X.2.2.2.2.1 hin hKn hkC e1 hty).to hfs⟩
  have := kk p l e s m args below meth c D cA ad A X H1 locs ls hp hl
  rw [List.map_cons, pz_ref, had] at this
  exact this
/-- arrays of numbers -/
theorem PW.newa {atype : ArrayType} {ty : FieldType} {tag : Nat} {n : Int32} {N : Nat} {fs : List Value} (d : decode k.cc pc = .ok (.newarray atype, 2)) (harr : Cond.arrayClass (newarray.typeOf atype) ∈ k.Ts) (hty : newarray.typeOf atype = ty) (hpr : ty.isReference = false) (htag : ∀ cA : Nat → ClassId, (ptys cA)[tag - 100]? = some (cA (tag - 100), ty)) (hpe : ∀ (cA : Nat → ClassId) (ad : Nat → Nat), ∃ a0 : vp_A, pe cA ad (tag, fs) = .inl (cA (tag - 100), a0) ∧ ∀ c : ClassId, vp_cell c a0 = arrV c N (fun _ => defaultValue ty))
    (hn : n = nI N) (hN : N < 1000000) (hby : N * componentBytes ty ≤ 536870912) (hm : mem.length = n0 + cells) (hc : cells + 1 ≤ k.R.cells) (hs : slots + N ≤ k.R.slots) (kk : PW k true n0 P T (pc + 2) L (.ref mem.length :: st) (mem ++ [(tag, fs)]) (cells + 1) (slots + N)) : PW k true n0 P T pc L (.int n :: st) mem cells slots := by
  intro p l e s m args below meth c D cA ad A X H locs ls hH hl
  refine pSz X hH hm (fun _ had => ?_)
  subst hn
  subst hty
  refine va_newaK X.1 X.2.1 (X.2.2.2.2.1 _ harr) rfl d rfl (nI_pos (by omega)) (nI_clamp (by omega)) hby hc hs rfl (fun H1 c9 e1 z1 o1 hAr hNm => ?_)
  have hRA : s.vm.findClass ("[" ++ (newarray.typeOf atype).toString) = some (cA (tag - 100)) := by
    have := ((X.2.2.2.2.2.2.2.2.1.2.1).2 _ _ (htag cA)).2
    cases atype <;> exact this
  have ec : c9 = cA (tag - 100) := Option.some.inj (hNm.symm.trans hRA)
  subst ec
  obtain ⟨a0, e0, hcell⟩ := hpe cA ad
  have hp : pH D cA ad A s (mem ++ [(tag, fs)]) H1 locs := by
    refine pPush hH X.2.2.2.2.2.2.2.2.2.2.1 had ?_ (by omega) o1
    rw [e0]
    show H1[H.size]? = some (vp_cell _ _)
    rw [hcell]
    exact e1
  have := kk p l e s m args below meth c D cA ad A X H1 locs ls hp hl
  rw [List.map_cons, pz_ref, had] at this
  exact this
/-- arrays of references -/
theorem PW.newq {idx tag : Nat} {C : String} {n : Int32} {N : Nat} (d : decode k.cc pc = .ok (.anewarray idx, 3)) (h1 : Cond.classLink k.own idx C ∈ k.Ts) (hAO : ∀ U : State, pN U → va_AO C U) (ht : 102 < tag) (htag : ∀ cA : Nat → ClassId, (ptys cA)[tag - 100]? = some (cA (tag - 100), .object C)) (hn : n = nI N) (hN : N < 1000000) (hm : mem.length = n0 + cells) (hc : cells + 1 ≤ k.R.cells) (hs : slots + N ≤ k.R.slots)
    (kk : PW k true n0 P T (pc + 3) L (.ref mem.length :: st) (mem ++ [(tag, List.replicate N .null)]) (cells + 1) (slots + N)) : PW k true n0 P T pc L (.int n :: st) mem cells slots := by
  intro p l e s m args below meth c D cA ad A X H locs ls hH hl
  refine pSz X hH hm (fun _ had => ?_)
  subst hn
  have hcl : (nI N).toNatClampNeg = N := nI_clamp (by omega)
  refine W.anew X.1 X.2.1 X.2.2.2.1 (X.2.2.2.2.1 _ h1) (va_AO.use (hAO s (X.2.2.2.2.2.2.2.2.2.2.2.1 rfl).1)) rfl d rfl (nI_pos (by omega)) (by rw [hcl]; omega) hc (by rw [hcl]; exact hs) (fun c9 kA comp f1 f2 f3 f4 => ?_)
  rw [hcl]
  generalize hH1 : H.push ({ cls := c9, slots := Array.replicate N .null, vm := .none } : Cell) = H1
  have z1 : H1.size = H.size + 1 := by rw [← hH1, Array.size_push]
  have e1 : H1[H.size]? = some (arrV c9 N (fun _ => .null)) := by rw [← hH1, Array.getElem?_push_size, ← arrV_new]
  have o1 : ∀ q : Nat, q < H.size → H1[q]? = H[q]? := fun q hq => by rw [← hH1, Array.getElem?_push, if_neg (Nat.ne_of_lt hq)]
  obtain ⟨kA', comp', g1, g2, g3, g4⟩ := ((X.2.2.2.2.2.2.2.2.1.2.1).2 _ _ (htag cA)).2
  have ec : c9 = cA (tag - 100) := Option.some.inj (f1.symm.trans g4)
  subst ec
  have hp : pH D cA ad A s (mem ++ [(tag, List.replicate N .null)]) H1 locs := by
    refine pPush hH X.2.2.2.2.2.2.2.2.2.2.1 had ?_ (by omega) o1
    rw [pe_q ht]
    show H1[H.size]? = some (vp_cell _ _)
    rw [vp_cell_q, e1, List.length_replicate]
    congr 2
    funext j
    have : pgr ad (List.replicate N .null) j = none := by
      unfold pgr
      by_cases hj : j < N
      · simp [hj]
      · simp [hj]
    rw [this]
    rfl
  have := kk p l e s m args below meth c D cA ad A X H1 locs ls hp hl
  rw [List.map_cons, pz_ref, had] at this
  exact this
theorem PW.objInit {al : Bool} {idx a : Nat} (d : decode k.cc pc = .ok (.invokespecial idx, 3)) (h1 : Cond.methodLink k.own idx Lib.objectInit ∈ k.Ts) (h2 : Cond.instanceMethod Lib.objectInit ∈ k.Ts) (h3 : Cond.code Lib.objectInit ⟨#[0xb1]⟩ 1 none ∈ k.Ts) (hf : 1 ≤ k.R.frames) (hlo : (st.map fun v => v.category).sum + 12 ≤ k.R.locals)
    (kk : PW k al n0 P T (pc + 3) L st mem cells slots) : PW k al n0 P T pc L (.ref a :: st) mem cells slots := by
  intro p l e s m args below meth c D cA ad A X H locs ls hH hl
  exact W.objInit X.1 X.2.1 X.2.2.2.1 (X.2.2.2.2.1 _ h1) (X.2.2.2.2.1 _ h2) (X.2.2.2.2.1 _ h3) (g := F0 m pc ls (.ref (ad a) :: st.map (pz ad))) rfl (hl.1.trans X.2.2.1.symm) rfl d hf (by rw [pz_cats]; exact (by rw [show (F0 m pc ls (Value.ref (ad a) :: List.map (pz ad) st)).monitorRoom = 0 from rfl]; omega)) (kk p l e s m args below meth c D cA ad A X H locs ls hH hl)
/-- a final field, in its maker -/
theorem PW.putF {idx ci j a : Nat} {fs : List Value} {v : Value} {ty : FieldType} {mem' : pM} (F : pF k.Ts k.own idx ci j) (Fw : pFw k.own ci j true ty) (hnl : k.own ≠ RL) (d : decode k.cc pc = .ok (.putfield idx, 3)) (hm : mem[a]? = some (ci, fs)) (hj9 : j < fs.length) (hn : ∀ ad : Nat → Nat, narrow ty (pz ad v) = pz ad v) (hf : ∀ ad : Nat → Nat, fits ty (pz ad v) = true) (hm' : mem.set a (ci, fs.set j v) = mem') (kk : PW k true n0 P T (pc + 3) L st mem' cells slots) : PW k true n0 P T pc L (v :: .ref a :: st) mem cells slots := by
  intro p l e s m args below meth c D cA ad A X H locs ls hH hl
  obtain ⟨C, Tb, N, hci, hc, hj, hin, hlk⟩ := F
  obtain ⟨C2, Tb2, N2, tyk, hc2, hty, hnm, hfin, hd, hdc⟩ := Fw
  cases Option.some.inj (hc.symm.trans hc2)
  have he := pw_get (cA := cA) (ad := ad) hm
  rw [pe_o hci] at he
  refine va_putF (T := Tb) X.1 X.2.1 X.2.2.2.2.1 hin tyk hty hnm X.2.2.2.1 X.2.2.2.2.2.2.2.2.1.2.1 hH.1 hH.2.1 hH.2.2 a he hc j hj (X.2.2.2.2.1 _ hlk) (fun _ h => h) hfin ((X.2.2.2.2.2.2.2.2.2.2.2.1 rfl).2.1 hnl) (hdc rfl) hd (hn ad) (hf ad) (by rw [List.length_map]; exact hj9) d (fun H1 locs1 hP1 hD1 hS1 => ?_)
  rw [pmap_set, ← pe_o (cA := cA) hci, pw_set hm, hm'] at hP1 hD1
  exact kk p l e s m args below meth c D cA ad A X H1 locs1 ls ⟨hP1, hD1, hS1⟩ hl
/-- an object into an array of its kind -/
theorem PW.aast {al : Bool} {i : Int32} {n a q t ci N : Nat} {C : String} {Tb : u_T} {fs gs : List Value} {mem' : pM} (d : decode k.cc pc = .ok (.aastore, 1)) (hm : mem[a]? = some (t, fs)) (ht : 102 < t) (hv : mem[q]? = some (ci, gs)) (hci : ci < 100) (hC : vwCl[ci]? = some (C, Tb, N)) (hty : ∀ cA : Nat → ClassId, (ptys cA)[t - 100]? = some (cA (t - 100), .object C)) (hi : i = nI n) (hn : n < 2 ^ 31) (hlt : n < fs.length) (hm' : mem.set a (t, fs.set n (.ref q)) = mem')
    (kk : PW k al n0 P T (pc + 1) L st mem' cells slots) : PW k al n0 P T pc L (.ref q :: .int i :: .ref a :: st) mem cells slots := by
  intro p l e s m args below meth c D cA ad A X H locs ls hH hl
  have he := pw_get (cA := cA) (ad := ad) hm
  rw [pe_q ht] at he
  have hg := pw_get (cA := cA) (ad := ad) hv
  rw [pe_o hci] at hg
  subst hi
  have hin : vp_in (nI n) fs.length := fun h => by
    rcases h with h | h
    · exact nI_pos hn h
    · rw [nI_clamp hn] at h; omega
  refine va_astq X.1 X.2.1 X.2.2.2.2.2.2.2.2.1.2.1 hH.1 hH.2.1 hH.2.2 a (t - 100) q ci he (r := (C, Tb, N)) (hty cA) hg hC hin d (fun H1 locs1 hP1 hD1 hS1 => ?_)
  have e2 : (Sum.inl (cA (t - 100), fs.length, Sum.inr (Sum.inr (Sum.inr (Sum.inr (va_up (pgr ad fs) (nI n).toNatClampNeg (some (ad q))))))) : va_E) = pe cA ad (t, fs.set n (.ref q)) := by
    rw [nI_clamp hn, pgr_set hlt, pe_q ht, List.length_set]
  rw [e2, pw_set hm, hm'] at hP1 hD1
  exact kk p l e s m args below meth c D cA ad A X H1 locs1 ls ⟨hP1, hD1, hS1⟩ hl
end RA1
/-! calling a maker -/
theorem pMet.met {l : Launch} {y : MethodName} {k : pK} {al : Bool} {as : List Value} {mem : pM} {P : pP} (h : pMet l y k al as mem P (fun _ _ => False)) (D : va_G) (cA : Nat → ClassId) (ad : Nat → Nat) (sz : Nat) : Met l y k.Ts k.R
    (va_Pc (as.map (pz ad)) (fun U => U.heap.size = sz ∧ pV l D cA U ∧ pZs (va_A (pw cA ad mem) sz) U U.heap ∧ va_P D vwCl (pw cA ad mem) U.heap ∧ va_D (fun _ => True) (pw cA ad mem) ∧ (al = true → pN U ∧ ∀ j : Nat, mem.length ≤ j → ad j = sz + (j - mem.length))))
    (pQ D cA ad (va_A (pw cA ad mem) sz) P) k.mc k.ms (va_A (pw cA ad mem) sz) := by
  refine MetFree.mono (h D cA ad sz) (fun _ _ q => q) (fun _ _ _ _ _ q => q) (fun a st o t _ q => ?_)
  rcases q with q | ⟨z, -, E, ce, L, ⟨⟨m9, hF, -⟩, -⟩, -⟩
  · exact q
  · exact hF.elim
theorem pRunX {p : Program} {l : Launch} {e : Env} {R : Room} {s : State} {m : MethodId} {args : Array Value} {below : List Frame} {meth : Method} {c : Code} {H : Heap} {locs : List Loc} {cells slots mc ms : Nat} {g : JFrame} {rest : List Value} {Qa : State → Outcome → State → Prop} {XC : String → State → State → Prop} {free : Addr → Prop} (h : va_Run p l e R s m args below meth c H locs cells slots mc ms g rest Qa free) : vx_Run p l e R s m args below meth c H locs cells slots mc ms g rest Qa XC free := fun T hT X => Or.inl (h T hT X)
section RA2
variable {k : pK} {n0 : Nat} {P : pP} {T : pT} {pc : Nat} {L : pL} {st : List Value} {mem : pM} {cells slots : Nat}
theorem PW.callI {idx n b : Nat} {y : MethodName} {k' : pK} {as : List Value} {P' : pP} {ws' : List Cond} (M : ∀ l : Launch, pMet l y k' true (.ref b :: as) mem P' (fun _ _ => False)) (d : decode k.cc pc = .ok (.invokespecial idx, 3)) (g : GoodIn k.Ts k'.Ts) (hw : k'.Ts = Cond.code y k'.cc k'.nL none :: ws') (hy : y.name = "<init>") (h1 : Cond.initialized y.cls ∈ k.Ts) (h2 : Cond.methodLink k.own idx y ∈ k.Ts) (h3 : Cond.instanceMethod y ∈ k.Ts)
    (hd : y.cls ≠ "java/lang/invoke/MethodHandle" ∧ y.cls ≠ "java/lang/invoke/VarHandle" ∧ (parseMethodDescriptor y.desc).map (fun d => d.parameters.length) = some n) (hn : as.length = n) (hR : k'.R.frames + 1 ≤ k.R.frames ∧ 8 + (k'.nL + 11) + k'.R.locals ≤ k.R.locals) (hcs : k'.R.cells = k'.mc ∧ k'.R.slots = k'.ms) (hst : (st.map fun v => v.category).sum ≤ 8) (hf : cells + k'.mc ≤ k.R.cells ∧ slots + k'.ms ≤ k.R.slots) (hm : mem.length = n0 + cells)
    {st0 : List Value} (hs0 : as.reverse ++ .ref b :: st = st0) (kk : ∀ (v : Option Value) (mem' : pM), P' v mem' → PW k true n0 P T (pc + 3) L (v.toList ++ st) mem' (cells + k'.mc) (slots + k'.ms)) : PW k true n0 P T pc L st0 mem cells slots := by
  intro p l e s m args below meth c D cA ad A X H locs ls hH hl
  refine pSz X hH hm (fun hal _ => ?_)
  subst hs0
  have hmet := (M l).met D cA ad H.size
  rw [List.map_cons, pz_ref] at hmet
  refine pCall X hH hl (T' := fun _ _ => False) (pRunX (va_runI (b := ad b) (As := as.map (pz ad)) (rest := st.map (pz ad)) ⟨X.1, X.2.1, X.2.2.1, X.2.2.2.1, X.2.2.2.2.1⟩ hmet (cwI n X.2.2.2.2.1 g hw hcs.1 hcs.2 (X.2.2.2.2.1 _ h1) (X.2.2.2.2.1 _ h2) (X.2.2.2.2.1 _ h3) hy hd hR) ⟨?_, fun U hU hW => ⟨rfl, pAt X hH hU hW (fun _ => ⟨(X.2.2.2.2.2.2.2.2.2.2.2.1 rfl).1, hal⟩)⟩⟩ rfl (by rw [List.length_map]; exact hn) hl.1 (by rw [List.map_append, List.map_reverse]; rfl) (lv_room (by rw [pz_cats]; exact hst)) d hf)) kk (fun _ _ h => h.elim)
  have hb := pBlind (l := l) (D := D) (cA := cA) (ad := ad) (sz := H.size) (al' := true) (as := .ref b :: as) (mem := mem)
  rw [List.map_cons, pz_ref] at hb
  exact hb
theorem PW.callIN {idx n b : Nat} {y : MethodName} {host : String} {k' : pK} {as : List Value} {P' : pP} {ws' : List Cond} (M : ∀ l : Launch, pMet l y k' true (.ref b :: as) mem P' (fun _ _ => False)) (d : decode k.cc pc = .ok (.invokespecial idx, 3)) (g : GoodIn k.Ts k'.Ts) (hw : k'.Ts = Cond.code y k'.cc k'.nL none :: ws') (hy : y.name = "<init>") (h1 : Cond.initialized y.cls ∈ k.Ts) (h2 : ∀ U : State, pN U → va_Nw (.methodLinkNest k.own idx y host) U) (h3 : Cond.instanceMethod y ∈ k.Ts)
    (hd : y.cls ≠ "java/lang/invoke/MethodHandle" ∧ y.cls ≠ "java/lang/invoke/VarHandle" ∧ (parseMethodDescriptor y.desc).map (fun d => d.parameters.length) = some n) (hn : as.length = n) (hR : k'.R.frames + 1 ≤ k.R.frames ∧ 8 + (k'.nL + 11) + k'.R.locals ≤ k.R.locals) (hcs : k'.R.cells = k'.mc ∧ k'.R.slots = k'.ms) (hst : (st.map fun v => v.category).sum ≤ 8) (hf : cells + k'.mc ≤ k.R.cells ∧ slots + k'.ms ≤ k.R.slots) (hm : mem.length = n0 + cells)
    {st0 : List Value} (hs0 : as.reverse ++ .ref b :: st = st0) (kk : ∀ (v : Option Value) (mem' : pM), P' v mem' → PW k true n0 P T (pc + 3) L (v.toList ++ st) mem' (cells + k'.mc) (slots + k'.ms)) : PW k true n0 P T pc L st0 mem cells slots := by
  intro p l e s m args below meth c D cA ad A X H locs ls hH hl
  refine pSz X hH hm (fun hal _ => ?_)
  subst hs0
  have hmet := (M l).met D cA ad H.size
  rw [List.map_cons, pz_ref] at hmet
  have hNN := (X.2.2.2.2.2.2.2.2.2.2.2.1 rfl).1
  refine pCall X hH hl (T' := fun _ _ => False) (pRunX (va_runIN (b := ad b) (As := as.map (pz ad)) (rest := st.map (pz ad)) ⟨X.1, X.2.1, X.2.2.1, X.2.2.2.1, X.2.2.2.2.1⟩ hmet ⟨va_cnB n X.2.2.2.2.1 g hw hcs.1 hcs.2 (h2 s hNN) (X.2.2.2.2.1 _ h1) hd hR, hy, X.2.2.2.2.1 _ h3⟩ ⟨?_, fun U hU hW => ⟨rfl, pAt X hH hU hW (fun _ => ⟨hNN, hal⟩)⟩⟩ rfl (by rw [List.length_map]; exact hn) hl.1 (by rw [List.map_append, List.map_reverse]; rfl) (lv_room (by rw [pz_cats]; exact hst)) d hf)) kk (fun _ _ h => h.elim)
  have hb := pBlind (l := l) (D := D) (cA := cA) (ad := ad) (sz := H.size) (al' := true) (as := .ref b :: as) (mem := mem)
  rw [List.map_cons, pz_ref] at hb
  exact hb
theorem pMet.ofI {l : Launch} {y : MethodName} {k : pK} {as : List Value} {mem : pM} {P : pP} {T : pT} {ws' : List Cond} (hy : plainName y.cls = true) (hw : k.Ts = Cond.code y k.cc k.nL k.ret :: ws') (hown : y.cls = k.own) (hhh : k.hh = []) (hnm : y.name = "<init>") (hc : ∀ v ∈ as, v.category = 1) (hn : as.length ≤ k.nL) (body : PW k true mem.length P T 0 (pEn as k.nL) [] mem 0 0) (hG : ∀ (U : State) (ad : Nat → Nat) (A : Nat → Prop), k.G U ad A := by exact fun _ _ _ => trivial) : pMet l y k true as mem P T := by
  intro D cA ad sz
  refine vx_ofW (cc := k.cc) (maxL := k.nL) (ret := k.ret) hy hw ?_
  intro p e s m args below meth c s₁ B hml ht hv
  obtain ⟨rfl, hsz, hV, hZ, hP, hD0, hal⟩ := hv
  subst hsz
  have hD := hD0.self (sz := s.heap.size)
  have hown' : s.vm.findClass k.own = some m.cls := by rw [← hown]; exact findClass_of_methodNamed B.named
  rw [lg_entry_eq]
  refine body p l e s m _ below meth c D cA ad _ ⟨B.exec, B.bytes, hml, hown', atoms_spec (ws := k.Ts) B.pre, B.notSynchronized, B.returns, ?_, hV, hZ, fun q h => Or.inr h, fun q => ⟨(hal q).1, fun _ => by rw [(name_of_methodNamed B.named B.method).1]; exact hnm, (hal q).2⟩, hG _ _ _⟩ s.heap [] _ ⟨hP, hD, va_S.rf⟩ (pEn_lo hc hn)
  rw [hhh]
  exact List.eq_nil_iff_forall_not_mem.mpr (fun x hx => ht x hx)
end RA2
