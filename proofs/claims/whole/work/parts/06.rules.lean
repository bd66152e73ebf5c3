/-! THE PURE MACHINE: a method's walk over pure cells; every machine that bears the method is meant -/
/-- what a method knows besides, of the state at its start, of the cells' places and of what it may touch -/
abbrev pG : Type := State → (Nat → Nat) → (Nat → Prop) → Prop
def pNo : pG := fun _ _ _ => True
abbrev pK : Type := String × ByteArray × Nat × List Cond × Room × Option FieldType × List ExceptionTableEntry × Nat × Nat × pG
abbrev pK.own (k : pK) : String := k.1
abbrev pK.cc (k : pK) : ByteArray := k.2.1
abbrev pK.nL (k : pK) : Nat := k.2.2.1
abbrev pK.Ts (k : pK) : List Cond := k.2.2.2.1
abbrev pK.R (k : pK) : Room := k.2.2.2.2.1
abbrev pK.ret (k : pK) : Option FieldType := k.2.2.2.2.2.1
abbrev pK.hh (k : pK) : List ExceptionTableEntry := k.2.2.2.2.2.2.1
abbrev pK.mc (k : pK) : Nat := k.2.2.2.2.2.2.2.1
abbrev pK.ms (k : pK) : Nat := k.2.2.2.2.2.2.2.2.1
abbrev pK.G (k : pK) : pG := k.2.2.2.2.2.2.2.2.2
abbrev ptys (cA : Nat → ClassId) : List (ClassId × FieldType) := [(cA 0, .int), (cA 1, .long), (cA 2, .boolean), (cA 3, .object RX2), (cA 4, .object RX1), (cA 5, .array .int)]
/-- the exceptions' names, and the texts that the desk throws -/
def pEx : List String := ["java/lang/IllegalArgumentException", "java/lang/IllegalStateException", "java/lang/IndexOutOfBoundsException"]
def pEy : List String := ["java/lang/IllegalStateException", "java/lang/IndexOutOfBoundsException"]
def pTx : List (Nat × String) := [(59, "the line is off the hook"), (82, "the line is on the hook"), (104, "the line can not camp"), (109, "the line does not talk, or the place is not free"), (118, "the line does not talk"), (149, "the group is full"), (162, "the slot is in use"), (199, "no such entry is kept"), (207, "an argument is not in its range")]
def pDc : List MethodName := [⟨"java/lang/RuntimeException", "<init>", "(Ljava/lang/String;)V"⟩, ⟨"java/lang/Exception", "<init>", "(Ljava/lang/String;)V"⟩, ⟨"java/lang/Throwable", "<init>", "(Ljava/lang/String;)V"⟩]
/-- what every state of the run says: it stays true as tables warm -/
def pV (l : Launch) (D : va_G) (cA : Nat → ClassId) (U : State) : Prop := l.stackTraces = false ∧ va_K D vwCl (ptys cA) U ∧ (∀ X ∈ pEx, va_Nw (.castable X X) U) ∧ (∀ q ∈ pTx, ∃ a : Nat, vk_R RX4 q.1 q.2 a U) ∧ (∀ y ∈ pDc, va_Nw (.declares y) U) ∧ ∀ X ∈ pEy, va_Nc X "java/lang/IllegalArgumentException" U
theorem pV.warm {l : Launch} {D : va_G} {cA : Nat → ClassId} {s U : State} (hW : s.WarmedH U.vm) (h : pV l D cA s) : pV l D cA U :=
  ⟨h.1, va_K.moved hW.alike h.2.1, fun X hX => va_Nw.warmC hW (h.2.2.1 X hX), fun q hq => by
    obtain ⟨a, ha⟩ := h.2.2.2.1 q hq
    exact ⟨a, vk_R.warm hW ha⟩, fun y hy => va_Nw.warmD hW (h.2.2.2.2.1 y hy), fun X hX => va_Nc.moved hW.alike (h.2.2.2.2.2 X hX)⟩
/-- what the makers ask besides -/
def pN (U : State) : Prop := va_AO RX2 U ∧ va_AO RX1 U ∧ va_Nw (.arrayOver (.array .int)) U ∧ va_Nw (.methodLinkNest RX4 31 yX1_init RX4) U ∧ va_Nw (.methodLinkNest RX4 44 yX0_init RX4) U
theorem pN.warm {s U : State} (hW : s.WarmedH U.vm) (h : pN s) : pN U :=
  ⟨va_AO.moved hW.alike h.1, va_AO.moved hW.alike h.2.1, (by
    have h9 : (Cond.arrayOver (.array .int)).before #[] (s.setVm U.vm) = true := by rw [Cond.arrayOver_setVmC hW.alike]; exact h.2.2.1
    exact h9), va_Nw.warmM hW h.2.2.2.1, va_Nw.warmM hW h.2.2.2.2⟩
def pZs (A : Nat → Prop) (U : State) (H : Heap) : Prop := vx_Zq Bundle.tN "UNASSIGNED_STACK" Bundle.steD A U H ∧ vx_Zq Bundle.tN "SUPPRESSED_SENTINEL" Bundle.listD A U H
def pX (k : pK) (al : Bool) (n0 : Nat) (p : Program) (l : Launch) (s : State) (m : MethodId) (args : Array Value) (meth : Method) (c : Code) (D : va_G) (cA : Nat → ClassId) (ad : Nat → Nat) (A : Nat → Prop) : Prop :=
  p.tables.exec = Jvm.exec ∧ c.code = k.cc ∧ c.maxLocals = k.nL ∧ s.vm.findClass k.own = some m.cls ∧ (∀ w ∈ k.Ts, w.before args s = true) ∧ meth.locks = false ∧ meth.sig.returnType = k.ret ∧ c.exceptionTable.toList = k.hh ∧ pV l D cA s ∧ pZs A s s.heap ∧
  (∀ q : Nat, s.heap.size ≤ q → A q) ∧ (al = true → pN s ∧ (k.own ≠ RL → meth.name = "<init>") ∧ ∀ j : Nat, n0 ≤ j → ad j = s.heap.size + (j - n0)) ∧ k.G s ad A
def pH (D : va_G) (cA : Nat → ClassId) (ad : Nat → Nat) (A : Nat → Prop) (s : State) (mem : pM) (H : Heap) (locs : List Loc) : Prop :=
  va_P D vwCl (pw cA ad mem) H ∧ va_D A (pw cA ad mem) ∧ va_S A s.heap H locs
abbrev pP : Type := Option Value → pM → Prop
abbrev pT : Type := String → pM → Prop
def pQ (D : va_G) (cA : Nat → ClassId) (ad : Nat → Nat) (A : Nat → Prop) (P : pP) : Array Value → State → Outcome → State → Prop := fun _ st o t =>
  (∃ (v : Option Value) (mem : pM), P v mem ∧ o = .returned (v.map (pz ad)) ∧ va_P D vwCl (pw cA ad mem) t.heap ∧ va_D A (pw cA ad mem)) ∧ va_F A st t
def pXC (D : va_G) (cA : Nat → ClassId) (ad : Nat → Nat) (A : Nat → Prop) (T : pT) : String → State → State → Prop := fun E st t =>
  (∃ mem : pM, T E mem ∧ va_P D vwCl (pw cA ad mem) t.heap ∧ va_D A (pw cA ad mem)) ∧ va_F A st t
/-- from this place the method comes to its end -/
def PW (k : pK) (al : Bool) (n0 : Nat) (P : pP) (T : pT) (pc : Nat) (L : pL) (st : List Value) (mem : pM) (cells slots : Nat) : Prop :=
  ∀ (p : Program) (l : Launch) (e : Env) (s : State) (m : MethodId) (args : Array Value) (below : List Frame) (meth : Method) (c : Code) (D : va_G) (cA : Nat → ClassId) (ad : Nat → Nat) (A : Nat → Prop), pX k al n0 p l s m args meth c D cA ad A →
    ∀ (H : Heap) (locs : List Loc) (ls : Array Slot), pH D cA ad A s mem H locs → plo ad ls k.nL L →
      W p l e k.R s m args below meth c H locs cells slots (vx_MQ below (pQ D cA ad A P) (pXC D cA ad A T) args s k.mc k.ms A) (F0 m pc ls (st.map (pz ad)))
/-- an exception of kind E stands over this place -/
def PT (k : pK) (al : Bool) (n0 : Nat) (P : pP) (T : pT) (E : String) (pc : Nat) (L : pL) (st : List Value) (mem : pM) (cells slots : Nat) : Prop :=
  ∀ (p : Program) (l : Launch) (e : Env) (s : State) (m : MethodId) (args : Array Value) (below : List Frame) (meth : Method) (c : Code) (D : va_G) (cA : Nat → ClassId) (ad : Nat → Nat) (A : Nat → Prop), pX k al n0 p l s m args meth c D cA ad A →
    ∀ (H : Heap) (locs : List Loc) (ls : Array Slot), va_P D vwCl (pw cA ad mem) H → va_D A (pw cA ad mem) → va_S A s.heap H locs → plo ad ls k.nL L → ∀ (q : Addr) (ce : Cell), H[q]? = some ce → ce.vm = .none → s.vm.findClass E = some ce.cls →
      vx_W p l e k.R s m args below meth c H locs cells slots (vx_MQ below (pQ D cA ad A P) (pXC D cA ad A T) args s k.mc k.ms A) (F0 m pc ls (st.map (pz ad))) q
section R1
variable {k : pK} {al : Bool} {n0 : Nat} {P : pP} {T : pT} {pc : Nat} {L : pL} {st : List Value} {mem : pM} {cells slots : Nat}
theorem PW.iconst {n : Int} {v : Int32} (d : decode k.cc pc = .ok (.iconst n, 1)) (hv : Int32.ofInt n = v) (kk : PW k al n0 P T (pc + 1) L (.int v :: st) mem cells slots) : PW k al n0 P T pc L st mem cells slots :=
  fun p l e s m args below meth c D cA ad A X H locs ls hH hl => lv_iconst X.1 X.2.1 d hv (kk p l e s m args below meth c D cA ad A X H locs ls hH hl)
theorem PW.bipush {n : Int} {v : Int32} (d : decode k.cc pc = .ok (.bipush n, 2)) (hv : (Int8.ofInt n).toInt32 = v) (kk : PW k al n0 P T (pc + 2) L (.int v :: st) mem cells slots) : PW k al n0 P T pc L st mem cells slots :=
  fun p l e s m args below meth c D cA ad A X H locs ls hH hl => lv_bipush X.1 X.2.1 d hv (kk p l e s m args below meth c D cA ad A X H locs ls hH hl)
theorem PW.sipush {n : Int} {v : Int32} (d : decode k.cc pc = .ok (.sipush n, 3)) (hv : (Int16.ofInt n).toInt32 = v) (kk : PW k al n0 P T (pc + 3) L (.int v :: st) mem cells slots) : PW k al n0 P T pc L st mem cells slots :=
  fun p l e s m args below meth c D cA ad A X H locs ls hH hl => lv_sipush X.1 X.2.1 d hv (kk p l e s m args below meth c D cA ad A X H locs ls hH hl)
theorem PW.ldc {i : Nat} {v : Int32} (d : decode k.cc pc = .ok (.ldc i, 2)) (hw : Cond.constant k.own i v ∈ k.Ts) (kk : PW k al n0 P T (pc + 2) L (.int v :: st) mem cells slots) : PW k al n0 P T pc L st mem cells slots :=
  fun p l e s m args below meth c D cA ad A X H locs ls hH hl => lv_ldc X.1 X.2.1 X.2.2.2.1 (X.2.2.2.2.1 _ hw) d (kk p l e s m args below meth c D cA ad A X H locs ls hH hl)
theorem PW.null (d : decode k.cc pc = .ok (.aconst_null, 1)) (kk : PW k al n0 P T (pc + 1) L (.null :: st) mem cells slots) : PW k al n0 P T pc L st mem cells slots :=
  fun p l e s m args below meth c D cA ad A X H locs ls hH hl => lv_null X.1 X.2.1 d (kk p l e s m args below meth c D cA ad A X H locs ls hH hl)
theorem PW.iload_n {j : Fin 4} {i : Nat} {x : Int32} (d : decode k.cc pc = .ok (.iload_n j, 1)) (hi : (j : Nat) = i) (hL : L[i]? = some (some (.int x))) (kk : PW k al n0 P T (pc + 1) L (.int x :: st) mem cells slots) : PW k al n0 P T pc L st mem cells slots :=
  fun p l e s m args below meth c D cA ad A X H locs ls hH hl => lv_iload_n X.1 X.2.1 d hi (hl.2.2 _ _ hL).1 (kk p l e s m args below meth c D cA ad A X H locs ls hH hl)
theorem PW.iload {i : Nat} {x : Int32} (d : decode k.cc pc = .ok (.iload i, 2)) (hL : L[i]? = some (some (.int x))) (kk : PW k al n0 P T (pc + 2) L (.int x :: st) mem cells slots) : PW k al n0 P T pc L st mem cells slots :=
  fun p l e s m args below meth c D cA ad A X H locs ls hH hl => lv_iload X.1 X.2.1 d (hl.2.2 _ _ hL).1 (kk p l e s m args below meth c D cA ad A X H locs ls hH hl)
theorem PW.aload_n {j : Fin 4} {i x : Nat} (d : decode k.cc pc = .ok (.aload_n j, 1)) (hi : (j : Nat) = i) (hL : L[i]? = some (some (.ref x))) (kk : PW k al n0 P T (pc + 1) L (.ref x :: st) mem cells slots) : PW k al n0 P T pc L st mem cells slots :=
  fun p l e s m args below meth c D cA ad A X H locs ls hH hl => lv_aload_n X.1 X.2.1 d hi (hl.2.2 _ _ hL).1 (kk p l e s m args below meth c D cA ad A X H locs ls hH hl)
theorem PW.aload {i x : Nat} (d : decode k.cc pc = .ok (.aload i, 2)) (hL : L[i]? = some (some (.ref x))) (kk : PW k al n0 P T (pc + 2) L (.ref x :: st) mem cells slots) : PW k al n0 P T pc L st mem cells slots :=
  fun p l e s m args below meth c D cA ad A X H locs ls hH hl => lv_aload X.1 X.2.1 d (hl.2.2 _ _ hL).1 (kk p l e s m args below meth c D cA ad A X H locs ls hH hl)
theorem PW.aload_nN {j : Fin 4} {i : Nat} (d : decode k.cc pc = .ok (.aload_n j, 1)) (hi : (j : Nat) = i) (hL : L[i]? = some (some .null)) (kk : PW k al n0 P T (pc + 1) L (.null :: st) mem cells slots) : PW k al n0 P T pc L st mem cells slots :=
  fun p l e s m args below meth c D cA ad A X H locs ls hH hl => lv_aload_nN X.1 X.2.1 d hi (hl.2.2 _ _ hL).1 (kk p l e s m args below meth c D cA ad A X H locs ls hH hl)
theorem PW.istore_n {j : Fin 4} {i : Nat} {x : Int32} {L' : pL} (d : decode k.cc pc = .ok (.istore_n j, 1)) (hi : (j : Nat) = i) (hn : i < k.nL) (hL : L.set i (some (.int x)) = L') (kk : PW k al n0 P T (pc + 1) L' st mem cells slots) : PW k al n0 P T pc L (.int x :: st) mem cells slots :=
  fun p l e s m args below meth c D cA ad A X H locs ls hH hl => lv_istore_n X.1 X.2.1 d hi (plo_has hl) hn rfl (fun ls' h' => kk p l e s m args below meth c D cA ad A X H locs ls' hH (by rw [← hL]; exact plo_store hl rfl h'))
theorem PW.istore {i : Nat} {x : Int32} {L' : pL} (d : decode k.cc pc = .ok (.istore i, 2)) (hn : i < k.nL) (hL : L.set i (some (.int x)) = L') (kk : PW k al n0 P T (pc + 2) L' st mem cells slots) : PW k al n0 P T pc L (.int x :: st) mem cells slots :=
  fun p l e s m args below meth c D cA ad A X H locs ls hH hl => lv_istore X.1 X.2.1 d (plo_has hl) hn rfl (fun ls' h' => kk p l e s m args below meth c D cA ad A X H locs ls' hH (by rw [← hL]; exact plo_store hl rfl h'))
theorem PW.astore_n {j : Fin 4} {i x : Nat} {L' : pL} (d : decode k.cc pc = .ok (.astore_n j, 1)) (hi : (j : Nat) = i) (hn : i < k.nL) (hL : L.set i (some (.ref x)) = L') (kk : PW k al n0 P T (pc + 1) L' st mem cells slots) : PW k al n0 P T pc L (.ref x :: st) mem cells slots :=
  fun p l e s m args below meth c D cA ad A X H locs ls hH hl => lv_astore_n X.1 X.2.1 d hi (plo_has hl) hn rfl (fun ls' h' => kk p l e s m args below meth c D cA ad A X H locs ls' hH (by rw [← hL]; exact plo_store (v := .ref x) hl rfl h'))
theorem PW.astore {i x : Nat} {L' : pL} (d : decode k.cc pc = .ok (.astore i, 2)) (hn : i < k.nL) (hL : L.set i (some (.ref x)) = L') (kk : PW k al n0 P T (pc + 2) L' st mem cells slots) : PW k al n0 P T pc L (.ref x :: st) mem cells slots :=
  fun p l e s m args below meth c D cA ad A X H locs ls hH hl => lv_astore X.1 X.2.1 d (plo_has hl) hn rfl (fun ls' h' => kk p l e s m args below meth c D cA ad A X H locs ls' hH (by rw [← hL]; exact plo_store (v := .ref x) hl rfl h'))
theorem PW.astore_nN {j : Fin 4} {i : Nat} {L' : pL} (d : decode k.cc pc = .ok (.astore_n j, 1)) (hi : (j : Nat) = i) (hn : i < k.nL) (hL : L.set i (some .null) = L') (kk : PW k al n0 P T (pc + 1) L' st mem cells slots) : PW k al n0 P T pc L (.null :: st) mem cells slots :=
  fun p l e s m args below meth c D cA ad A X H locs ls hH hl => lv_astore_nN X.1 X.2.1 d hi (plo_has hl) hn rfl (fun ls' h' => kk p l e s m args below meth c D cA ad A X H locs ls' hH (by rw [← hL]; exact plo_store (v := .null) hl rfl h'))
theorem PW.iinc {i : Nat} {n : Int} {x v : Int32} {L' : pL} (d : decode k.cc pc = .ok (.iinc i n, 3)) (hx : L[i]? = some (some (.int x))) (hv : x + Int32.ofInt n = v) (hn : i < k.nL) (hL : L.set i (some (.int v)) = L') (kk : PW k al n0 P T (pc + 3) L' st mem cells slots) : PW k al n0 P T pc L st mem cells slots := by
  intro p l e s m args below meth c D cA ad A X H locs ls hH hl
  obtain ⟨j, hj⟩ := List.getElem?_of_mem (pas_in (ad := ad) hx)
  exact lv_iinc (x := x) X.1 X.2.1 d (plo_has hl) hj hv hn rfl (fun ls' h' => kk p l e s m args below meth c D cA ad A X H locs ls' hH (by rw [← hL]; exact plo_store hl rfl h'))
theorem PW.iadd {x y : Int32} (d : decode k.cc pc = .ok (.iadd, 1)) (kk : PW k al n0 P T (pc + 1) L (.int (x + y) :: st) mem cells slots) : PW k al n0 P T pc L (.int y :: .int x :: st) mem cells slots :=
  fun p l e s m args below meth c D cA ad A X H locs ls hH hl => lv_iadd X.1 X.2.1 d (kk p l e s m args below meth c D cA ad A X H locs ls hH hl)
theorem PW.isub {x y : Int32} (d : decode k.cc pc = .ok (.isub, 1)) (kk : PW k al n0 P T (pc + 1) L (.int (x - y) :: st) mem cells slots) : PW k al n0 P T pc L (.int y :: .int x :: st) mem cells slots :=
  fun p l e s m args below meth c D cA ad A X H locs ls hH hl => lv_isub X.1 X.2.1 d (kk p l e s m args below meth c D cA ad A X H locs ls hH hl)
theorem PW.imul {x y : Int32} (d : decode k.cc pc = .ok (.imul, 1)) (kk : PW k al n0 P T (pc + 1) L (.int (x * y) :: st) mem cells slots) : PW k al n0 P T pc L (.int y :: .int x :: st) mem cells slots :=
  fun p l e s m args below meth c D cA ad A X H locs ls hH hl => lv_imul X.1 X.2.1 d (kk p l e s m args below meth c D cA ad A X H locs ls hH hl)
theorem PW.iand {x y : Int32} (d : decode k.cc pc = .ok (.iand, 1)) (kk : PW k al n0 P T (pc + 1) L (.int (x &&& y) :: st) mem cells slots) : PW k al n0 P T pc L (.int y :: .int x :: st) mem cells slots :=
  fun p l e s m args below meth c D cA ad A X H locs ls hH hl => lv_iand X.1 X.2.1 d (kk p l e s m args below meth c D cA ad A X H locs ls hH hl)
theorem PW.idiv {x y : Int32} (d : decode k.cc pc = .ok (.idiv, 1)) (hne : ¬ y = 0) (kk : PW k al n0 P T (pc + 1) L (.int (x / y) :: st) mem cells slots) : PW k al n0 P T pc L (.int y :: .int x :: st) mem cells slots :=
  fun p l e s m args below meth c D cA ad A X H locs ls hH hl => lv_idiv X.1 X.2.1 d hne (kk p l e s m args below meth c D cA ad A X H locs ls hH hl)
theorem PW.irem {x y : Int32} (d : decode k.cc pc = .ok (.irem, 1)) (hne : ¬ y = 0) (kk : PW k al n0 P T (pc + 1) L (.int (x - x / y * y) :: st) mem cells slots) : PW k al n0 P T pc L (.int y :: .int x :: st) mem cells slots :=
  fun p l e s m args below meth c D cA ad A X H locs ls hH hl => lv_irem X.1 X.2.1 d hne (kk p l e s m args below meth c D cA ad A X H locs ls hH hl)
theorem PW.dup {v : Value} (d : decode k.cc pc = .ok (.dup, 1)) (hv : v.category = 1) (kk : PW k al n0 P T (pc + 1) L (v :: v :: st) mem cells slots) : PW k al n0 P T pc L (v :: st) mem cells slots :=
  fun p l e s m args below meth c D cA ad A X H locs ls hH hl => lv_dup X.1 X.2.1 d (by rw [pz_cat]; exact hv) (kk p l e s m args below meth c D cA ad A X H locs ls hH hl)
theorem PW.dup2 {v w : Value} (d : decode k.cc pc = .ok (.dup2, 1)) (hv : v.category = 1) (hw : w.category = 1) (kk : PW k al n0 P T (pc + 1) L (v :: w :: v :: w :: st) mem cells slots) : PW k al n0 P T pc L (v :: w :: st) mem cells slots :=
  fun p l e s m args below meth c D cA ad A X H locs ls hH hl => lv_dup2_11 X.1 X.2.1 d (by rw [pz_cat]; exact hv) (by rw [pz_cat]; exact hw) (kk p l e s m args below meth c D cA ad A X H locs ls hH hl)
theorem PW.dup_x1 {v w : Value} (d : decode k.cc pc = .ok (.dup_x1, 1)) (hv : v.category = 1) (hw : w.category = 1) (kk : PW k al n0 P T (pc + 1) L (v :: w :: v :: st) mem cells slots) : PW k al n0 P T pc L (v :: w :: st) mem cells slots :=
  fun p l e s m args below meth c D cA ad A X H locs ls hH hl => lv_dup_x1 X.1 X.2.1 d (by rw [pz_cat]; exact hv) (by rw [pz_cat]; exact hw) (kk p l e s m args below meth c D cA ad A X H locs ls hH hl)
theorem PW.pop {v : Value} (d : decode k.cc pc = .ok (.pop, 1)) (hv : v.category = 1) (kk : PW k al n0 P T (pc + 1) L st mem cells slots) : PW k al n0 P T pc L (v :: st) mem cells slots :=
  fun p l e s m args below meth c D cA ad A X H locs ls hH hl => lv_pop X.1 X.2.1 d (by rw [pz_cat]; exact hv) (kk p l e s m args below meth c D cA ad A X H locs ls hH hl)
theorem PW.goto {off : Int} {tgt : Nat} (d : decode k.cc pc = .ok (.goto off, 3)) (ht : (pc : Int) + off = (tgt : Int)) (kk : PW k al n0 P T tgt L st mem cells slots) : PW k al n0 P T pc L st mem cells slots :=
  fun p l e s m args below meth c D cA ad A X H locs ls hH hl => lv_goto X.1 X.2.1 d ht (kk p l e s m args below meth c D cA ad A X H locs ls hH hl)
theorem PW.widen {c' s' : Nat} (h1 : cells ≤ c') (h2 : slots ≤ s') (kk : PW k al n0 P T pc L st mem c' s') : PW k al n0 P T pc L st mem cells slots :=
  fun p l e s m args below meth c D cA ad A X H locs ls hH hl => W.widen h1 h2 (kk p l e s m args below meth c D cA ad A X H locs ls hH hl)
theorem PW.forget {L' : pL} (hs : ∀ (i : Nat) (v : Value), L'[i]? = some (some v) → L[i]? = some (some v)) (kk : PW k al n0 P T pc L' st mem cells slots) : PW k al n0 P T pc L st mem cells slots :=
  fun p l e s m args below meth c D cA ad A X H locs ls hH hl => kk p l e s m args below meth c D cA ad A X H locs ls hH (plo_forget hl hs)
theorem PW.if_eq {x : Int32} {off : Int} {tgt : Nat} (d : decode k.cc pc = .ok (.ifCond .eq off, 3)) (ht : (pc : Int) + off = (tgt : Int)) (kt : x = 0 → PW k al n0 P T tgt L st mem cells slots) (kf : ¬ x = 0 → PW k al n0 P T (pc + 3) L st mem cells slots) : PW k al n0 P T pc L (.int x :: st) mem cells slots :=
  fun p l e s m args below meth c D cA ad A X H locs ls hH hl => lv_if_eq X.1 X.2.1 d ht (fun h => kt h p l e s m args below meth c D cA ad A X H locs ls hH hl) (fun h => kf h p l e s m args below meth c D cA ad A X H locs ls hH hl)
theorem PW.if_ne {x : Int32} {off : Int} {tgt : Nat} (d : decode k.cc pc = .ok (.ifCond .ne off, 3)) (ht : (pc : Int) + off = (tgt : Int)) (kt : ¬ x = 0 → PW k al n0 P T tgt L st mem cells slots) (kf : x = 0 → PW k al n0 P T (pc + 3) L st mem cells slots) : PW k al n0 P T pc L (.int x :: st) mem cells slots :=
  fun p l e s m args below meth c D cA ad A X H locs ls hH hl => lv_if_ne X.1 X.2.1 d ht (fun h => kt h p l e s m args below meth c D cA ad A X H locs ls hH hl) (fun h => kf h p l e s m args below meth c D cA ad A X H locs ls hH hl)
theorem PW.if_lt {x : Int32} {off : Int} {tgt : Nat} (d : decode k.cc pc = .ok (.ifCond .lt off, 3)) (ht : (pc : Int) + off = (tgt : Int)) (kt : x < 0 → PW k al n0 P T tgt L st mem cells slots) (kf : ¬ x < 0 → PW k al n0 P T (pc + 3) L st mem cells slots) : PW k al n0 P T pc L (.int x :: st) mem cells slots :=
  fun p l e s m args below meth c D cA ad A X H locs ls hH hl => lv_if_lt X.1 X.2.1 d ht (fun h => kt h p l e s m args below meth c D cA ad A X H locs ls hH hl) (fun h => kf h p l e s m args below meth c D cA ad A X H locs ls hH hl)
theorem PW.if_ge {x : Int32} {off : Int} {tgt : Nat} (d : decode k.cc pc = .ok (.ifCond .ge off, 3)) (ht : (pc : Int) + off = (tgt : Int)) (kt : 0 ≤ x → PW k al n0 P T tgt L st mem cells slots) (kf : ¬ 0 ≤ x → PW k al n0 P T (pc + 3) L st mem cells slots) : PW k al n0 P T pc L (.int x :: st) mem cells slots :=
  fun p l e s m args below meth c D cA ad A X H locs ls hH hl => lv_if_ge X.1 X.2.1 d ht (fun h => kt h p l e s m args below meth c D cA ad A X H locs ls hH hl) (fun h => kf h p l e s m args below meth c D cA ad A X H locs ls hH hl)
theorem PW.if_gt {x : Int32} {off : Int} {tgt : Nat} (d : decode k.cc pc = .ok (.ifCond .gt off, 3)) (ht : (pc : Int) + off = (tgt : Int)) (kt : 0 < x → PW k al n0 P T tgt L st mem cells slots) (kf : ¬ 0 < x → PW k al n0 P T (pc + 3) L st mem cells slots) : PW k al n0 P T pc L (.int x :: st) mem cells slots :=
  fun p l e s m args below meth c D cA ad A X H locs ls hH hl => lv_if_gt X.1 X.2.1 d ht (fun h => kt h p l e s m args below meth c D cA ad A X H locs ls hH hl) (fun h => kf h p l e s m args below meth c D cA ad A X H locs ls hH hl)
theorem PW.if_le {x : Int32} {off : Int} {tgt : Nat} (d : decode k.cc pc = .ok (.ifCond .le off, 3)) (ht : (pc : Int) + off = (tgt : Int)) (kt : x ≤ 0 → PW k al n0 P T tgt L st mem cells slots) (kf : ¬ x ≤ 0 → PW k al n0 P T (pc + 3) L st mem cells slots) : PW k al n0 P T pc L (.int x :: st) mem cells slots :=
  fun p l e s m args below meth c D cA ad A X H locs ls hH hl => lv_if_le X.1 X.2.1 d ht (fun h => kt h p l e s m args below meth c D cA ad A X H locs ls hH hl) (fun h => kf h p l e s m args below meth c D cA ad A X H locs ls hH hl)
theorem PW.icmp_eq {x y : Int32} {off : Int} {tgt : Nat} (d : decode k.cc pc = .ok (.if_icmp .eq off, 3)) (ht : (pc : Int) + off = (tgt : Int)) (kt : x = y → PW k al n0 P T tgt L st mem cells slots) (kf : ¬ x = y → PW k al n0 P T (pc + 3) L st mem cells slots) : PW k al n0 P T pc L (.int y :: .int x :: st) mem cells slots :=
  fun p l e s m args below meth c D cA ad A X H locs ls hH hl => lv_icmp_eq X.1 X.2.1 d ht (fun h => kt h p l e s m args below meth c D cA ad A X H locs ls hH hl) (fun h => kf h p l e s m args below meth c D cA ad A X H locs ls hH hl)
theorem PW.icmp_ne {x y : Int32} {off : Int} {tgt : Nat} (d : decode k.cc pc = .ok (.if_icmp .ne off, 3)) (ht : (pc : Int) + off = (tgt : Int)) (kt : ¬ x = y → PW k al n0 P T tgt L st mem cells slots) (kf : x = y → PW k al n0 P T (pc + 3) L st mem cells slots) : PW k al n0 P T pc L (.int y :: .int x :: st) mem cells slots :=
  fun p l e s m args below meth c D cA ad A X H locs ls hH hl => lv_icmp_ne X.1 X.2.1 d ht (fun h => kt h p l e s m args below meth c D cA ad A X H locs ls hH hl) (fun h => kf h p l e s m args below meth c D cA ad A X H locs ls hH hl)
theorem PW.icmp_lt {x y : Int32} {off : Int} {tgt : Nat} (d : decode k.cc pc = .ok (.if_icmp .lt off, 3)) (ht : (pc : Int) + off = (tgt : Int)) (kt : x < y → PW k al n0 P T tgt L st mem cells slots) (kf : ¬ x < y → PW k al n0 P T (pc + 3) L st mem cells slots) : PW k al n0 P T pc L (.int y :: .int x :: st) mem cells slots :=
  fun p l e s m args below meth c D cA ad A X H locs ls hH hl => lv_icmp_lt X.1 X.2.1 d ht (fun h => kt h p l e s m args below meth c D cA ad A X H locs ls hH hl) (fun h => kf h p l e s m args below meth c D cA ad A X H locs ls hH hl)
theorem PW.icmp_ge {x y : Int32} {off : Int} {tgt : Nat} (d : decode k.cc pc = .ok (.if_icmp .ge off, 3)) (ht : (pc : Int) + off = (tgt : Int)) (kt : y ≤ x → PW k al n0 P T tgt L st mem cells slots) (kf : ¬ y ≤ x → PW k al n0 P T (pc + 3) L st mem cells slots) : PW k al n0 P T pc L (.int y :: .int x :: st) mem cells slots :=
  fun p l e s m args below meth c D cA ad A X H locs ls hH hl => lv_icmp_ge X.1 X.2.1 d ht (fun h => kt h p l e s m args below meth c D cA ad A X H locs ls hH hl) (fun h => kf h p l e s m args below meth c D cA ad A X H locs ls hH hl)
theorem PW.icmp_gt {x y : Int32} {off : Int} {tgt : Nat} (d : decode k.cc pc = .ok (.if_icmp .gt off, 3)) (ht : (pc : Int) + off = (tgt : Int)) (kt : y < x → PW k al n0 P T tgt L st mem cells slots) (kf : ¬ y < x → PW k al n0 P T (pc + 3) L st mem cells slots) : PW k al n0 P T pc L (.int y :: .int x :: st) mem cells slots :=
  fun p l e s m args below meth c D cA ad A X H locs ls hH hl => lv_icmp_gt X.1 X.2.1 d ht (fun h => kt h p l e s m args below meth c D cA ad A X H locs ls hH hl) (fun h => kf h p l e s m args below meth c D cA ad A X H locs ls hH hl)
theorem PW.icmp_le {x y : Int32} {off : Int} {tgt : Nat} (d : decode k.cc pc = .ok (.if_icmp .le off, 3)) (ht : (pc : Int) + off = (tgt : Int)) (kt : x ≤ y → PW k al n0 P T tgt L st mem cells slots) (kf : ¬ x ≤ y → PW k al n0 P T (pc + 3) L st mem cells slots) : PW k al n0 P T pc L (.int y :: .int x :: st) mem cells slots :=
  fun p l e s m args below meth c D cA ad A X H locs ls hH hl => lv_icmp_le X.1 X.2.1 d ht (fun h => kt h p l e s m args below meth c D cA ad A X H locs ls hH hl) (fun h => kf h p l e s m args below meth c D cA ad A X H locs ls hH hl)
theorem PW.ifnull {x : Nat} {off : Int} (d : decode k.cc pc = .ok (.ifnull off, 3)) (kk : PW k al n0 P T (pc + 3) L st mem cells slots) : PW k al n0 P T pc L (.ref x :: st) mem cells slots :=
  fun p l e s m args below meth c D cA ad A X H locs ls hH hl => lv_ifnull X.1 X.2.1 d (kk p l e s m args below meth c D cA ad A X H locs ls hH hl)
theorem PW.ifnullN {off : Int} {tgt : Nat} (d : decode k.cc pc = .ok (.ifnull off, 3)) (ht : (pc : Int) + off = (tgt : Int)) (kk : PW k al n0 P T tgt L st mem cells slots) : PW k al n0 P T pc L (.null :: st) mem cells slots :=
  fun p l e s m args below meth c D cA ad A X H locs ls hH hl => lv_ifnullN X.1 X.2.1 d ht (kk p l e s m args below meth c D cA ad A X H locs ls hH hl)
theorem PW.ifnonnull {x : Nat} {off : Int} {tgt : Nat} (d : decode k.cc pc = .ok (.ifnonnull off, 3)) (ht : (pc : Int) + off = (tgt : Int)) (kk : PW k al n0 P T tgt L st mem cells slots) : PW k al n0 P T pc L (.ref x :: st) mem cells slots :=
  fun p l e s m args below meth c D cA ad A X H locs ls hH hl => lv_ifnonnull X.1 X.2.1 d ht (kk p l e s m args below meth c D cA ad A X H locs ls hH hl)
theorem PW.ifnonnullN {off : Int} (d : decode k.cc pc = .ok (.ifnonnull off, 3)) (kk : PW k al n0 P T (pc + 3) L st mem cells slots) : PW k al n0 P T pc L (.null :: st) mem cells slots :=
  fun p l e s m args below meth c D cA ad A X H locs ls hH hl => lv_ifnonnullN X.1 X.2.1 d (kk p l e s m args below meth c D cA ad A X H locs ls hH hl)
theorem PW.tableOut {dflt lo hi : Int} {offs : Array Int} {len : Nat} {x : Int32} {tgt : Nat} (d : decode k.cc pc = .ok (.tableswitch dflt lo hi offs, len)) (h : x.toInt < lo ∨ hi < x.toInt) (ht : (pc : Int) + dflt = (tgt : Int)) (kk : PW k al n0 P T tgt L st mem cells slots) : PW k al n0 P T pc L (.int x :: st) mem cells slots :=
  fun p l e s m args below meth c D cA ad A X H locs ls hH hl => lv_tableOut X.1 X.2.1 d h ht (kk p l e s m args below meth c D cA ad A X H locs ls hH hl)
theorem PW.tableIn {dflt lo hi : Int} {offs : Array Int} {len : Nat} {x : Int32} {off : Int} {tgt : Nat} (d : decode k.cc pc = .ok (.tableswitch dflt lo hi offs, len)) (h1 : ¬ x.toInt < lo) (h2 : ¬ hi < x.toInt) (ho : offs[(x.toInt - lo).toNat]? = some off) (ht : (pc : Int) + off = (tgt : Int)) (kk : PW k al n0 P T tgt L st mem cells slots) : PW k al n0 P T pc L (.int x :: st) mem cells slots :=
  fun p l e s m args below meth c D cA ad A X H locs ls hH hl => lv_tableIn X.1 X.2.1 d h1 h2 ho ht (kk p l e s m args below meth c D cA ad A X H locs ls hH hl)
theorem PW.lookup {dflt : Int} {ps : Array (Int × Int)} {len : Nat} {x : Int32} {off : Int} {tgt : Nat} (d : decode k.cc pc = .ok (.lookupswitch dflt ps, len)) (hp : (ps.toList.zip (ps.toList.drop 1)).all (fun (a, next) => a.1 < next.1) = true) (ho : Op.lookupswitch.offset ps.toList dflt x.toInt = off) (ht : (pc : Int) + off = (tgt : Int)) (kk : PW k al n0 P T tgt L st mem cells slots) : PW k al n0 P T pc L (.int x :: st) mem cells slots :=
  fun p l e s m args below meth c D cA ad A X H locs ls hH hl => lv_lookup X.1 X.2.1 d hp ho ht (kk p l e s m args below meth c D cA ad A X H locs ls hH hl)
end R1
