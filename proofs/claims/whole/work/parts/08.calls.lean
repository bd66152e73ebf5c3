/-- what a method owes: on these arguments and these cells it ends as P says, or throws as T says -/
def pMet (l : Launch) (y : MethodName) (k : pK) (al : Bool) (as : List Value) (mem : pM) (P : pP) (T : pT) : Prop :=
  ∀ (D : va_G) (cA : Nat → ClassId) (ad : Nat → Nat) (sz : Nat), vx_Met l y k.Ts k.R
    (va_Pc (as.map (pz ad)) (fun U => U.heap.size = sz ∧ pV l D cA U ∧ pZs (va_A (pw cA ad mem) sz) U U.heap ∧ va_P D vwCl (pw cA ad mem) U.heap ∧ va_D (fun _ => True) (pw cA ad mem) ∧ (al = true → pN U ∧ ∀ j : Nat, mem.length ≤ j → ad j = sz + (j - mem.length))))
    (pQ D cA ad (va_A (pw cA ad mem) sz) P) (pXC D cA ad (va_A (pw cA ad mem) sz) T) k.mc k.ms (va_A (pw cA ad mem) sz)
def pEn (as : List Value) (n : Nat) : pL := as.map some ++ List.replicate (n - as.length) none
theorem pEn_sl {ad : Nat → Nat} : ∀ {as : List Value}, (∀ v ∈ as, v.category = 1) → lg_sl (as.map (pz ad)) = as.map (fun v => Slot.val (pz ad v))
  | [], _ => rfl
  | v :: r, h => by
    have h1 : (pz ad v).category = 1 := by rw [pz_cat]; exact h v List.mem_cons_self
    have h2 := pEn_sl (ad := ad) (as := r) (fun w hw => h w (List.mem_cons_of_mem _ hw))
    simp only [lg_sl] at h2
    simp only [lg_sl, List.map_cons, List.flatMap_cons, h1]
    rw [if_neg (by decide), h2]
    rfl
theorem pEn_lo {ad : Nat → Nat} {as : List Value} {n : Nat} (hc : ∀ v ∈ as, v.category = 1) (hn : as.length ≤ n) : plo ad ((lg_sl (as.map (pz ad)) ++ List.replicate (n - (lg_sl (as.map (pz ad))).length) Slot.unset).toArray) n (pEn as n) := by
  have hsl := pEn_sl (ad := ad) hc
  have hl := lv_entry (as.map (pz ad)) (n := n) (by rw [hsl, List.length_map]; exact hn)
  refine ⟨hl.1, hl.2.1, fun i v hv => ?_⟩
  rw [hsl]
  by_cases hi : i < as.length
  · simp only [pEn] at hv
    rw [List.getElem?_append_left (by rw [List.length_map]; exact hi), List.getElem?_map, List.getElem?_eq_getElem hi] at hv
    have e : as[i] = v := by simpa using hv
    subst e
    refine ⟨?_, hc _ (List.getElem_mem hi)⟩
    rw [List.getElem?_toArray, List.getElem?_append_left (by rw [List.length_map]; exact hi), List.getElem?_map, List.getElem?_eq_getElem hi]
    rfl
  · exfalso
    simp only [pEn] at hv
    rw [List.getElem?_append_right (by rw [List.length_map]; omega)] at hv
    have h9 := List.mem_of_getElem? hv
    have h8 := (List.mem_replicate.mp h9).2
    cases h8
theorem pMet.of {l : Launch} {y : MethodName} {k : pK} {as : List Value} {mem : pM} {P : pP} {T : pT} {ws' : List Cond} (hy : plainName y.cls = true) (hw : k.Ts = Cond.code y k.cc k.nL k.ret :: ws') (hown : y.cls = k.own) (hhh : k.hh = []) (hc : ∀ v ∈ as, v.category = 1) (hn : as.length ≤ k.nL) (body : PW k false mem.length P T 0 (pEn as k.nL) [] mem 0 0) (hG : ∀ (U : State) (ad : Nat → Nat) (A : Nat → Prop), k.G U ad A := by exact fun _ _ _ => trivial) : pMet l y k false as mem P T := by
  intro D cA ad sz
  refine vx_ofW (cc := k.cc) (maxL := k.nL) (ret := k.ret) hy hw ?_
  intro p e s m args below meth c s₁ B hml ht hv
  obtain ⟨rfl, hsz, hV, hZ, hP, hD0, hal⟩ := hv
  subst hsz
  have hD := hD0.self (sz := s.heap.size)
  have hown' : s.vm.findClass k.own = some m.cls := by rw [← hown]; exact findClass_of_methodNamed B.named
  rw [lg_entry_eq]
  refine body p l e s m _ below meth c D cA ad _ ⟨B.exec, B.bytes, hml, hown', atoms_spec (ws := k.Ts) B.pre, B.notSynchronized, B.returns, ?_, hV, hZ, fun q h => Or.inr h, (fun h => by cases h), hG _ _ _⟩ s.heap [] _ ⟨hP, hD, va_S.rf⟩ (pEn_lo hc hn)
  rw [hhh]
  exact List.eq_nil_iff_forall_not_mem.mpr (fun x hx => ht x hx)
theorem pMap_o (ad : Nat → Nat) (v : Option Value) (st : List Value) : (v.map (pz ad)).toList ++ st.map (pz ad) = (v.toList ++ st).map (pz ad) := by cases v <;> rfl
section R3
variable {k : pK} {al : Bool} {n0 : Nat} {P : pP} {T : pT} {pc : Nat} {L : pL} {st : List Value} {mem : pM} {cells slots : Nat}
theorem pPre {k : pK} {al : Bool} {n0 : Nat} {p : Program} {l : Launch} {s : State} {m : MethodId} {args : Array Value} {meth : Method} {c : Code} {D : va_G} {cA : Nat → ClassId} {ad : Nat → Nat} {A : Nat → Prop} {mem : pM} {H : Heap} {locs : List Loc} (X : pX k al n0 p l s m args meth c D cA ad A) (hH : pH D cA ad A s mem H locs) : ∀ q, va_A (pw cA ad mem) H.size q → A q := by
  intro q h
  rcases h with ⟨i, e, h⟩ | h
  · exact hH.2.1.2 i (q, e) h
  · exact X.2.2.2.2.2.2.2.2.2.2.1 q (Nat.le_trans hH.2.2.1 h)
theorem pBlind {l : Launch} {D : va_G} {cA : Nat → ClassId} {ad : Nat → Nat} {sz : Nat} {al' : Bool} {as : List Value} {mem : pM} : FrameBlind (va_Pc (as.map (pz ad)) (fun U => U.heap.size = sz ∧ pV l D cA U ∧ pZs (va_A (pw cA ad mem) sz) U U.heap ∧ va_P D vwCl (pw cA ad mem) U.heap ∧ va_D (fun _ => True) (pw cA ad mem) ∧ (al' = true → pN U ∧ ∀ j : Nat, mem.length ≤ j → ad j = sz + (j - mem.length)))) := by
  intro a U g mk h
  obtain ⟨h1, h2, h3, h4, h5, h6, h7⟩ := h
  exact ⟨h1, h2, pV.warm (s := U) (U := U.calling g mk a) (State.WarmedH.refl U) h3, ⟨vx_Zq.moved (u := U) (U := U.calling g mk a) (Vm.Alike.refl U.vm) h4.1, vx_Zq.moved (u := U) (U := U.calling g mk a) (Vm.Alike.refl U.vm) h4.2⟩, h5, h6, fun q => ⟨pN.warm (s := U) (U := U.calling g mk a) (State.WarmedH.refl U) (h7 q).1, (h7 q).2⟩⟩
theorem pAt {k : pK} {al : Bool} {n0 : Nat} {p : Program} {l : Launch} {s : State} {m : MethodId} {args : Array Value} {meth : Method} {c : Code} {D : va_G} {cA : Nat → ClassId} {ad : Nat → Nat} {A : Nat → Prop} {mem : pM} {H : Heap} {locs : List Loc} (X : pX k al n0 p l s m args meth c D cA ad A) (hH : pH D cA ad A s mem H locs) {U : State} (hU : U.heap = H) (hW : s.WarmedH U.vm) {al' : Bool} (hal : al' = true → pN s ∧ ∀ j : Nat, mem.length ≤ j → ad j = H.size + (j - mem.length)) :
    U.heap.size = H.size ∧ pV l D cA U ∧ pZs (va_A (pw cA ad mem) H.size) U U.heap ∧ va_P D vwCl (pw cA ad mem) U.heap ∧ va_D (fun _ => True) (pw cA ad mem) ∧ (al' = true → pN U ∧ ∀ j : Nat, mem.length ≤ j → ad j = H.size + (j - mem.length)) := by
  have hF := pPre X hH
  refine ⟨by rw [hU], pV.warm hW X.2.2.2.2.2.2.2.2.1, ?_, by rw [hU]; exact hH.1, hH.2.1.weaken (fun _ _ _ _ => trivial), fun q => ⟨pN.warm hW (hal q).1, (hal q).2⟩⟩
  obtain ⟨hz1, hz2⟩ := X.2.2.2.2.2.2.2.2.2.1
  refine ⟨?_, ?_⟩
  · rw [hU]; exact (vx_Zq.moved hW.alike (hz1.kept hH.2.2.2.1)).narrow hF
  · rw [hU]; exact (vx_Zq.moved hW.alike (hz2.kept hH.2.2.2.1)).narrow hF
theorem pCall {p : Program} {l : Launch} {e : Env} {s : State} {m : MethodId} {args : Array Value} {below : List Frame} {meth : Method} {c : Code} {D : va_G} {cA : Nat → ClassId} {ad : Nat → Nat} {A : Nat → Prop} (X : pX k al n0 p l s m args meth c D cA ad A) {H : Heap} {locs : List Loc} {ls : Array Slot} (hH : pH D cA ad A s mem H locs) (hl : plo ad ls k.nL L) {mc ms : Nat} {P' : pP} {T' : pT} {a : Array Value} {st0 : List Value}
    (hr : vx_Run p l e k.R s m args below meth c H locs cells slots mc ms (F0 m pc ls st0) (st.map (pz ad)) (pQ D cA ad (va_A (pw cA ad mem) H.size) P' a) (pXC D cA ad (va_A (pw cA ad mem) H.size) T') (va_A (pw cA ad mem) H.size))
    (kk : ∀ (v : Option Value) (mem' : pM), P' v mem' → PW k al n0 P T (pc + 3) L (v.toList ++ st) mem' (cells + mc) (slots + ms)) (kx : ∀ (E : String) (mem' : pM), T' E mem' → PT k al n0 P T E pc L st mem' (cells + mc) (slots + ms)) :
    W p l e k.R s m args below meth c H locs cells slots (vx_MQ below (pQ D cA ad A P) (pXC D cA ad A T) args s k.mc k.ms A) (F0 m pc ls st0) := by
  have hF := pPre X hH
  intro T9 hT Xs
  rcases hr T9 hT Xs with ⟨v, st₀, t, T', Lq, h0, X', hL, e1, e2, ⟨⟨v', mem', hp, hv, hP', hD'⟩, hF'⟩, stp⟩ | ⟨q, st₀, t, T', Lq, E, ce, h0, X', hL, e1, e2, ⟨⟨mem', hp, hP', hD'⟩, hF'⟩, hce, hcv, hcl, stp⟩
  · cases hv
    obtain ⟨k1, k2, k3⟩ := vx_keep h0 e1 hH.2.2 (fun q _ h => hF q h) hF hL hF'
    obtain ⟨t2, a1, b1⟩ := kk v' mem' hp p l e s m args below meth c D cA ad A X T'.heap (locs ++ Lq) ls ⟨by rw [e1]; exact hP', hD'.weaken (fun _ _ _ h => hF _ h), k3⟩ hl T' rfl X'
    refine ⟨t2, stp t2 ?_, b1⟩
    rw [pMap_o]
    exact a1
  · obtain ⟨k1, k2, k3⟩ := vx_keep h0 e1 hH.2.2 (fun q _ h => hF q h) hF hL hF'
    obtain ⟨t2, a1, b1⟩ := kx E mem' hp p l e s m args below meth c D cA ad A X T'.heap (locs ++ Lq) ls (by rw [e1]; exact hP') (hD'.weaken (fun _ _ _ h => hF _ h)) k3 hl q ce (by rw [e1]; exact hce) hcv hcl T' rfl X'
    exact ⟨t2, stp.trans a1, b1⟩
theorem PW.callS {idx n : Nat} {y : MethodName} {k' : pK} {as : List Value} {P' : pP} {T' : pT} {ws' : List Cond} (M : ∀ l : Launch, pMet l y k' false as mem P' T') (d : decode k.cc pc = .ok (.invokestatic idx, 3)) (g : GoodIn k.Ts (va_wsS k.own idx y k'.Ts)) (hw : k'.Ts = Cond.code y k'.cc k'.nL k'.ret :: ws')
    (hd : y.cls ≠ "java/lang/invoke/MethodHandle" ∧ y.cls ≠ "java/lang/invoke/VarHandle" ∧ (parseMethodDescriptor y.desc).map (fun d => d.parameters.length) = some n) (hn : as.length = n) (hR : k'.R.frames + 1 ≤ k.R.frames ∧ 8 + (k'.nL + 11) + k'.R.locals ≤ k.R.locals) (hcs : k'.R.cells = k'.mc ∧ k'.R.slots = k'.ms) (hst : (st.map fun v => v.category).sum ≤ 8) (hf : cells + k'.mc ≤ k.R.cells ∧ slots + k'.ms ≤ k.R.slots)
    {st0 : List Value} (hs0 : as.reverse ++ st = st0) (kk : ∀ (v : Option Value) (mem' : pM), P' v mem' → PW k al n0 P T (pc + 3) L (v.toList ++ st) mem' (cells + k'.mc) (slots + k'.ms)) (kx : ∀ (E : String) (mem' : pM), T' E mem' → PT k al n0 P T E pc L st mem' (cells + k'.mc) (slots + k'.ms)) : PW k al n0 P T pc L st0 mem cells slots := by
  intro p l e s m args below meth c D cA ad A X H locs ls hH hl
  subst hs0
  refine pCall X hH hl (vx_runS (As := as.map (pz ad)) (rest := st.map (pz ad)) ⟨X.1, X.2.1, X.2.2.1, X.2.2.2.1, X.2.2.2.2.1⟩ (M l D cA ad H.size) (va_cwS n X.2.2.2.2.1 g hw hcs.1 hcs.2 hd hR) ⟨pBlind, fun U hU hW => ⟨rfl, pAt X hH hU hW (fun h => by cases h)⟩⟩ rfl (by rw [List.length_map]; exact hn) hl.1 (by rw [List.map_append, List.map_reverse]) (lv_room (by rw [pz_cats]; exact hst)) d hf) kk kx
theorem PW.callV {idx n b ci N : Nat} {C : String} {Tb : u_T} {fs : List Value} {y : MethodName} {k' : pK} {as : List Value} {P' : pP} {T' : pT} {ws' : List Cond} (M : ∀ l : Launch, pMet l y k' false (.ref b :: as) mem P' T') (d : decode k.cc pc = .ok (.invokevirtual idx, 3)) (g : GoodIn k.Ts (wsV k.own idx C y k'.Ts)) (hw : k'.Ts = Cond.code y k'.cc k'.nL k'.ret :: ws')
    (hd : y.cls = C ∧ y.cls ≠ "java/lang/invoke/MethodHandle" ∧ y.cls ≠ "java/lang/invoke/VarHandle" ∧ (parseMethodDescriptor y.desc).map (fun d => d.parameters.length) = some n) (hn : as.length = n) (hR : k'.R.frames + 1 ≤ k.R.frames ∧ 8 + (k'.nL + 11) + k'.R.locals ≤ k.R.locals) (hcs : k'.R.cells = k'.mc ∧ k'.R.slots = k'.ms) (hst : (st.map fun v => v.category).sum ≤ 8) (hf : cells + k'.mc ≤ k.R.cells ∧ slots + k'.ms ≤ k.R.slots)
    (hm : mem[b]? = some (ci, fs)) (hci : ci < 100) (hC : vwCl[ci]? = some (C, Tb, N)) {st0 : List Value} (hs0 : as.reverse ++ .ref b :: st = st0) (kk : ∀ (v : Option Value) (mem' : pM), P' v mem' → PW k al n0 P T (pc + 3) L (v.toList ++ st) mem' (cells + k'.mc) (slots + k'.ms)) (kx : ∀ (E : String) (mem' : pM), T' E mem' → PT k al n0 P T E pc L st mem' (cells + k'.mc) (slots + k'.ms)) : PW k al n0 P T pc L st0 mem cells slots := by
  intro p l e s m args below meth c D cA ad A X H locs ls hH hl
  subst hs0
  have he := pw_get (cA := cA) (ad := ad) hm
  rw [pe_o hci] at he
  refine pCall X hH hl (vx_runV (C := C) (b := ad b) (As := as.map (pz ad)) (rest := st.map (pz ad)) ⟨X.1, X.2.1, X.2.2.1, X.2.2.2.1, X.2.2.2.2.1⟩ (M l D cA ad H.size) (cwV n X.2.2.2.2.1 g hw hcs.1 hcs.2 hd hR) ⟨pBlind, va_recv X.2.2.2.2.2.2.2.2.1.2.1 hH.1 hC he, fun U hU hW => ⟨rfl, pAt X hH hU hW (fun h => by cases h)⟩⟩ rfl (by rw [List.length_map]; exact hn) hl.1 (by rw [List.map_append, List.map_reverse]; rfl) (lv_room (by rw [pz_cats]; exact hst)) d hf) kk kx
theorem PT.out {E : String} (hhh : k.hh = []) (ht : T E mem) (h1 : cells ≤ k.mc) (h2 : slots ≤ k.ms) : PT k al n0 P T E pc L st mem cells slots := by
  intro p l e s m args below meth c D cA ad A X H locs ls hP hD hS hl q ce hce hcv hcl
  exact vx_out (fun x hx => by rw [X.2.2.2.2.2.2.2.1, hhh] at hx; cases hx) X.2.2.2.2.2.1 hce hcv hcl (fun t ht9 _ => ⟨⟨mem, ht, by rw [ht9]; exact hP, hD⟩, hS.F ht9⟩) hS.2.2 h1 h2
theorem PW.throwS {cls text : String} {names : List String} {ik is ic : Nat} (hcls : Bundle.fit cls = true) (hnames : ∀ n ∈ names, Bundle.fit n = true) (hkw : Cond.classLink k.own ik cls ∈ k.Ts) (hiw : Cond.initialized cls ∈ k.Ts) (hstr : (is, text) ∈ pTx) (hown : k.own = RX4) (hex : cls ∈ pEx)
    (hat1 : ∀ w ∈ (vx_atS k.own ic cls names).filter goodWord, w ∈ k.Ts) (hat2 : ∀ w ∈ (vx_atS k.own ic cls names).filter (fun w => !goodWord w), w ∈ Cond.castable cls cls :: pDc.map Cond.declares) (hgood : ∀ w ∈ Cond.classLink k.own ik cls :: Cond.initialized cls :: vx_atS k.own ic cls names, vx_ot w = true)
    (d0 : decode k.cc pc = .ok (.new ik, 3)) (d3 : decode k.cc (pc + 3) = .ok (.dup, 1)) (d4 : decode k.cc (pc + 4) = .ok (.ldc is, 2)) (d6 : decode k.cc (pc + 6) = .ok (.invokespecial ic, 3)) (d9 : decode k.cc (pc + 9) = .ok (.athrow, 1)) (hhh : k.hh = [])
    (hRf : names.length + 3 < k.R.frames) (hRl : (st.map fun v => v.category).sum + (13 * (names.length + 1) + 43) ≤ k.R.locals) (hRc : cells + 1 ≤ k.R.cells) (hRs : slots + 6 ≤ k.R.slots) (h1 : cells + 1 ≤ k.mc) (h2 : slots + 6 ≤ k.ms) (ht : T cls mem) : PW k al n0 P T pc L st mem cells slots := by
  intro p l e s m args below meth c D cA ad A X H locs ls hH hl
  obtain ⟨sa, hsa⟩ := X.2.2.2.2.2.2.2.2.1.2.2.2.1 _ hstr
  obtain ⟨hz1, hz2⟩ := X.2.2.2.2.2.2.2.2.2.1
  have hcast : (Cond.castable cls cls).before args s = true := va_Nw.use rfl (X.2.2.2.2.2.2.2.2.1.2.2.1 cls hex)
  refine vx_throwS (cls := cls) (text := text) (names := names) (ik := ik) (is := is) (ic := ic) (sa := sa) (A := A) X.1 X.2.1 X.2.2.2.2.2.2.2.2.1.1 X.2.2.2.1 hcls hnames (X.2.2.2.2.1 _ hkw) (X.2.2.2.2.1 _ hiw) (by rw [hown]; exact hsa) (vx_hat (fun w hw => X.2.2.2.2.1 _ (hat1 w hw)) hat2 (vx_c hcast (fun w hw => by
    obtain ⟨y, hy, rfl⟩ := List.mem_map.mp hw
    exact va_Nw.use rfl (X.2.2.2.2.2.2.2.2.1.2.2.2.2.1 y hy)))) hgood hz1 hz2 hH.2.2 (hl.1.trans X.2.2.1.symm) d0 d3 d4 d6 d9 (fun x hx => by rw [X.2.2.2.2.2.2.2.1, hhh] at hx; cases hx) hRf (by rw [pz_cats]; exact hRl) hRc hRs X.2.2.2.2.2.1 ?_ hH.2.2.2.2 h1 h2
  intro t _ hsz hq
  refine ⟨⟨mem, ht, hH.1.kept (fun i x hx => hq x.1 ((hH.1 i x hx).lt)), hH.2.1⟩, Nat.le_trans hH.2.2.1 hsz, fun q h1 h2 => ?_⟩
  rw [hq q (Nat.lt_of_lt_of_le h1 hH.2.2.1)]
  exact hH.2.2.2.1 q h1 h2
end R3
