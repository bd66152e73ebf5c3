/-! int[4][8]: the outer array, and one row after the other -/
def vyO (cA : ClassId) (h : Nat) : Nat → Cell
  | 0 => { cls := cA, slots := Array.replicate 4 .null, vm := .none }
  | i + 1 => (vyO cA h i).setSlot i (.ref (h + 1 + i))
def vyR (cB : ClassId) : Cell := { cls := cB, slots := Array.replicate 8 (.int 0), vm := .none }
def vyS (S : State) (cA cB : ClassId) : Nat → State
  | 0 => S.pushCell (vyO cA S.heap.size 0)
  | i + 1 => ((vyS S cA cB i).pushCell (vyR cB)).setCell S.heap.size (vyO cA S.heap.size (i + 1))
theorem vyO_is (cA : ClassId) (h : Nat) : ∀ i, (vyO cA h i).cls = cA ∧ (vyO cA h i).vm = .none ∧ (vyO cA h i).slots.size = 4
  | 0 => ⟨rfl, rfl, by simp [vyO]⟩
  | i + 1 => by
    have ih := vyO_is cA h i
    refine ⟨?_, ?_, ?_⟩ <;> simp [vyO, Cell.setSlot, ih]
theorem vyS_is (S : State) (cA cB : ClassId) : ∀ i, (vyS S cA cB i).heap.size = S.heap.size + 1 + i ∧ (vyS S cA cB i).heap[S.heap.size]? = some (vyO cA S.heap.size i) ∧ (vyS S cA cB i).vm = S.vm ∧ (vyS S cA cB i).slotsUsed = S.slotsUsed + 4 + 8 * i
  | 0 => ⟨by simp [vyS], by simp [vyS], rfl, by simp [vyS, vyO]⟩
  | i + 1 => by
    obtain ⟨a, b, c, d⟩ := vyS_is S cA cB i
    have hlt : S.heap.size < (vyS S cA cB i).heap.size := by omega
    have b' : ((vyS S cA cB i).pushCell (vyR cB)).heap[S.heap.size]? = some (vyO cA S.heap.size i) := by rw [State.heap_pushCell_of_lt (h := hlt)]; exact b
    refine ⟨?_, State.heap_setCell_self b', by simp [vyS, c], ?_⟩
    · simp [vyS, State.setCell, a]; omega
    · simp [vyS, d, vyR]; omega
theorem vyS_top (S : State) (f : JFrame) (cA cB : ClassId) : ∀ i, vyS (S.setTop f) cA cB i = (vyS S cA cB i).setTop f
  | 0 => rfl
  | i + 1 => by simp only [vyS, vyS_top S f cA cB i, State.heap_setTop, State.pushCell_setTop, State.setCell_setTop]
theorem vyS_old (S : State) (cA cB : ClassId) {a : Addr} (ha : a < S.heap.size) : ∀ i, (vyS S cA cB i).heap[a]? = S.heap[a]?
  | 0 => State.heap_pushCell_of_lt _ _ ha
  | i + 1 => by
    have f1 := (vyS_is S cA cB i).1
    have hlt : a < (vyS S cA cB i).heap.size := Nat.lt_of_lt_of_le ha (by omega)
    show (((vyS S cA cB i).pushCell (vyR cB)).setCell S.heap.size _).heap[a]? = _
    rw [State.heap_setCell_other (Nat.ne_of_gt ha), State.heap_pushCell_of_lt (h := hlt)]
    exact vyS_old S cA cB ha i
theorem vyS_row (S : State) (cA cB : ClassId) : ∀ i j, j < i → (vyS S cA cB i).heap[S.heap.size + 1 + j]? = some (vyR cB)
  | 0, _, h => absurd h (Nat.not_lt_zero _)
  | i + 1, j, h => by
    have f1 := (vyS_is S cA cB i).1
    show (((vyS S cA cB i).pushCell (vyR cB)).setCell S.heap.size _).heap[S.heap.size + 1 + j]? = _
    rw [State.heap_setCell_other (show S.heap.size ≠ S.heap.size + 1 + j by omega)]
    by_cases hj : j < i
    · have hlt : S.heap.size + 1 + j < (vyS S cA cB i).heap.size := by omega
      rw [State.heap_pushCell_of_lt (h := hlt)]
      exact vyS_row S cA cB i j hj
    · rw [show S.heap.size + 1 + j = (vyS S cA cB i).heap.size by omega]
      exact State.heap_pushCell_size _ _
theorem vyO_arr (cA : ClassId) (h : Nat) : ∀ i, vyO cA h i = arrV cA 4 (fun j => va_rf (if j < i then some (h + 1 + j) else none))
  | 0 => by
    show ({ cls := cA, slots := Array.replicate 4 .null, vm := .none } : Cell) = _
    rw [arrV_new]
    refine congrArg (arrV cA 4) (funext fun j => ?_)
    simp [va_rf]
  | i + 1 => by
    show (vyO cA h i).setSlot i (.ref (h + 1 + i)) = _
    rw [vyO_arr cA h i, arrV_store]
    refine congrArg (arrV cA 4) (funext fun j => ?_)
    by_cases e : j = i
    · subst e
      simp [updV, va_rf]
    · by_cases q : j < i
      · simp [updV, e, q, Nat.lt_succ_of_lt q]
      · simp [updV, e, q, show ¬ j < i + 1 by omega]
section VY1
variable {E : CtlPost} {e : Env} {d : Bool} {acts : List Action} {s : State}
/-- a row by itself -/
theorem vy_row {cB cI : ClassId} {kB : Class} (hk : s.vm.classes[cB]? = some kB) (hkind : kB.kind = .array cI .int) (hl : ¬ 8 > e.platform.arrayLengthLimit) (hh : ¬ 8 * componentBytes .int > e.platform.maxHeapBytes) (h1 : s.heap.size < e.platform.maxCells) (h2 : s.slotsUsed + 8 ≤ e.platform.maxSlots)
    {Q : Addr → Pre} (hq : ∀ acts', Q s.heap.size d acts' (s.pushCell (vyR cB))) : wp (multianewarray.make cB [8]) Q E e d acts s := by
  rw [multianewarray.make]
  simp only [wp_bind', W.ite, show ¬ (8 : Int32) < 0 by decide, if_false, wp_pure', W.theClass, hk, hkind, Option.some.injEq, exists_eq_left']
  exact W.newArray_of hk hkind hl hh h1 h2 rfl hq
theorem vy_make {cA cB cI : ClassId} {kA kB : Class} (hk : s.vm.classes[cA]? = some kA) (hkind : kA.kind = .array cB (.array .int)) (hkB : s.vm.classes[cB]? = some kB) (hkindB : kB.kind = .array cI .int) (hl : ¬ 8 > e.platform.arrayLengthLimit) (hh : ¬ 8 * componentBytes .int > e.platform.maxHeapBytes)
    (hc : s.heap.size + 5 ≤ e.platform.maxCells) (hs : s.slotsUsed + 36 ≤ e.platform.maxSlots) {Q : Addr → Pre} (hq : ∀ d' acts', Q s.heap.size d' acts' (vyS s cA cB 4)) : wp (multianewarray.make cA [4, 8]) Q E e d acts s := by
  have hb : componentBytes (.array .int) = 4 := rfl
  have hb2 : componentBytes .int = 4 := rfl
  rw [multianewarray.make]
  simp only [wp_bind', W.ite, show ¬ (4 : Int32) < 0 by decide, if_false, wp_pure', W.theClass, hk, hkind, Option.some.injEq, exists_eq_left', show (4 : Int32).toNatClampNeg = 4 by decide]
  refine W.newArray_of hk hkind (by omega) (by rw [hb]; rw [hb2] at hh; omega) (by omega) (by omega) rfl (fun acts1 => ?_)
  simp only [show ([8] : List Int32).find? (· < 0) = none by decide]
  rw [ite_self, wp_bind', Std.Legacy.Range.forIn_eq_forIn_range']
  show wp (forIn [0, 1, 2, 3] PUnit.unit _) _ E e d acts1 _
  refine wp_forIn_inv (fun rest s' => ∃ i, i ≤ 4 ∧ rest = ([0, 1, 2, 3] : List Nat).drop i ∧ s' = vyS s cA cB i) _ _ ⟨0, by decide, rfl, rfl⟩ ?_ ?_
  · rintro x rest s' d' acts' Q' ⟨i, hi, hr, rfl⟩ hnext
    have hi4 : i < 4 := by
      rcases Nat.lt_or_ge i 4 with q | q
      · exact q
      · rw [show i = 4 by omega] at hr; cases hr
    obtain ⟨rfl, hr2⟩ : x = i ∧ rest = ([0, 1, 2, 3] : List Nat).drop (i + 1) := by
      rcases (show i = 0 ∨ i = 1 ∨ i = 2 ∨ i = 3 by omega) with rfl | rfl | rfl | rfl <;> (cases hr; exact ⟨rfl, rfl⟩)
    obtain ⟨f1, f2, f3, f4⟩ := vyS_is s cA cB x
    obtain ⟨o1, o2, o3⟩ := vyO_is cA s.heap.size x
    simp only [wp_bind']
    refine vy_row (by rw [f3]; exact hkB) hkindB hl hh (by omega) (by omega) (fun acts2 => ?_)
    simp only [wp_bind', W.writeLoc, wp_pure']
    have hlt : s.heap.size < (vyS s cA cB x).heap.size := by omega
    refine ⟨vyO cA s.heap.size x, by rw [State.heap_pushCell_of_lt (h := hlt)]; exact f2, by rw [o2]; simp, by rw [o3]; exact hi4, ?_, hnext _ _ _ ⟨x + 1, hi4, hr2, ?_⟩⟩
    · rw [o1, o2]
      simp [State.fitsSlot, State.slotType?, f3, hk, hkind]
      rfl
    · rw [f1]; rfl
  · rintro s' d' acts' ⟨i, hi, hr, rfl⟩
    have hi4 : i = 4 := by
      rcases (show i = 0 ∨ i = 1 ∨ i = 2 ∨ i = 3 ∨ i = 4 by omega) with rfl | rfl | rfl | rfl | rfl
      · cases hr
      · cases hr
      · cases hr
      · cases hr
      · rfl
    subst hi4
    simp only [wp_pure']
    exact hq _ _
end VY1
section VY2
variable {p : Program} {l : Launch} {e : Env} {R : Room} {s : State} {m : MethodId} {args : Array Value} {below : List Frame} {meth : Method} {c : Code} {T : State} {locs : List Loc} {cells slots : Nat}
theorem vy_stand (X : Stand p l e R s m args below meth c T locs cells slots) (cA cB : ClassId) : ∀ i, ∃ J : List Loc, (∀ x ∈ J, x.base = T.heap.size) ∧ Stand p l e R s m args below meth c (vyS T cA cB i) (locs ++ J) (cells + 1 + i) (slots + 4 + 8 * i)
  | 0 => ⟨[], fun x hx => (by cases hx), by
    have h := X.pushed (vyO cA T.heap.size 0)
    rw [(vyO_is cA T.heap.size 0).2.2] at h
    simpa [vyS] using h⟩
  | i + 1 => by
    obtain ⟨J, hJ, Xi⟩ := vy_stand X cA cB i
    obtain ⟨f1, f2, f3, f4⟩ := vyS_is T cA cB i
    have hlt : T.heap.size < (vyS T cA cB i).heap.size := by omega
    have hcell : ((vyS T cA cB i).pushCell (vyR cB)).heap[T.heap.size]? = some (vyO cA T.heap.size i) := by rw [State.heap_pushCell_of_lt (h := hlt)]; exact f2
    have h := (Xi.pushed (vyR cB)).stored hcell i (.ref (T.heap.size + 1 + i))
    have e1 : (vyR cB).slots.size = 8 := by simp [vyR]
    rw [e1, List.append_assoc] at h
    refine ⟨J ++ [⟨T.heap.size, i⟩], fun x hx => ?_, by
      rw [show slots + 4 + 8 * (i + 1) = slots + 4 + 8 * i + 8 by omega]
      exact h⟩
    rcases List.mem_append.mp hx with q | q
    · exact hJ x q
    · rw [List.mem_singleton.mp q]
theorem vy_over {U : State} (h : va_Nw (.arrayOver (.array .int)) U) : ∃ cA cB kA, U.vm.findClass "[I" = some cB ∧ U.vm.classes[cA]? = some kA ∧ kA.kind = .array cB (.array .int) ∧ U.vm.findClass "[[I" = some cA := by
  obtain ⟨comp, c1, k1, h1, -, h3, h4, h5⟩ := arrayOverA_spec (show (Cond.arrayOver (.array .int)).before #[] U = true from h)
  exact ⟨c1, comp, k1, h1, h3, h4, h5⟩
theorem vy_multi (X : Stand p l e R s m args below meth c T locs cells slots) (hexec : p.tables.exec = Jvm.exec) {own : String} {index : Nat} (hown : s.vm.findClass own = some m.cls) (hclink : (Cond.classLink own index "[[I").before args s = true) (hover : va_Nw (.arrayOver (.array .int)) s) (harr : (Cond.arrayClass .int).before args s = true)
    {g : JFrame} (hg : g.method = m) (hdg : decode c.code g.pc = .ok (.multianewarray index 2, 4)) {rest : List Value} (hstack : g.stack = .int 8 :: .int 4 :: rest) (hcells : cells + 5 ≤ R.cells) (hslots : slots + 36 ≤ R.slots) :
    ∃ (vm₁ : Vm) (cA cB : ClassId), s.vm.findClass "[[I" = some cA ∧ s.vm.findClass "[I" = some cB ∧ Stand p l e R s m args below meth c (vyS (T.setVm vm₁) cA cB 4) locs (cells + 5) (slots + 36) ∧
      ∀ target, Steps p.tables e below ((vyS (T.setVm vm₁) cA cB 4).setTop { g with pc := g.pc + 4, stack := .ref T.heap.size :: rest }) target → Steps p.tables e below (T.setTop g) target := by
  subst hg
  have hpl : e.platform.magicAccessors = ({} : Platform).magicAccessors := by rw [X.admits.platform]
  obtain ⟨cA, cB, kA, hcB, hkA, hkindA, hcA⟩ := vy_over hover
  obtain ⟨cB', kB, cI, hcB', hkB, hkindB⟩ := Cond.arrayClass_spec harr
  have eB : cB' = cB := Option.some.inj (hcB'.symm.trans hcB)
  subst eB
  obtain ⟨c0, hfc0, hcl⟩ := Cond.classLink_spec hown hclink e.platform hpl
  cases hcA.symm.trans hfc0
  obtain ⟨hg₁, hwarm₁, hready₁⟩ := State.classEntry (e := e) X.warmed hcl
  generalize T.vm.noted g.method.cls index (.cls cA) = vm₁ at hg₁ hwarm₁ hready₁
  have hal : s.vm.Alike vm₁ := hwarm₁.alike
  obtain ⟨kA₁, hkA₁, heA⟩ := hal.2.2 _ _ hkA
  obtain ⟨kB₁, hkB₁, heB⟩ := hal.2.2 _ _ hkB
  have X₁ := X.noted hwarm₁
  obtain ⟨hr1, hr2⟩ := X.roomAbove hcells hslots
  obtain ⟨J, hJ, XF⟩ := vy_stand X₁ cA cB' 4
  have XF' := XF.dropFresh (fun x hx => by rw [hJ x hx]; exact X.heapGrown)
  refine ⟨vm₁, cA, cB', hcA, hcB, XF', fun target hrest => ?_⟩
  have hl : ¬ 8 > e.platform.arrayLengthLimit := by rw [Launch.admits_arrayLengthLimit X.admits]; omega
  have hh : ¬ 8 * componentBytes .int > e.platform.maxHeapBytes := by rw [Launch.admits_maxHeapBytes X.admits]; show ¬ 8 * 4 > 536870912; omega
  jvm_step X.here [hexec, hdg]
  simp only [multianewarray.sem, wp_bind', W.resolveClassAt_links (State.method?_setTop g X.here.top) hg₁]
  rw [W.popN, if_neg (by decide)]
  refine ⟨g, State.topJava?_setTop' (s := T.setVm vm₁) g X.here.top, [.int 4, .int 8], rest, rfl, hstack, ?_⟩
  simp only [List.mapM_cons, List.mapM_nil, wp_bind', wp_pure']
  refine vy_make (kA := kA₁) (kB := kB₁) (cB := cB') (cI := cI) hkA₁ (by rw [heA]; exact hkindA) hkB₁ (by rw [heB]; exact hkindB) hl hh (by show T.heap.size + 5 ≤ _; omega) (by show T.slotsUsed + 36 ≤ _; omega) (fun d' acts' => ?_)
  have eS : ((T.setTop g).setVm vm₁).setTop { g with stack := rest } = (T.setVm vm₁).setTop { g with stack := rest } := by
    show ((T.setVm vm₁).setTop g).setTop _ = _
    rw [State.setTop_setTop]
  rw [eS, vyS_top]
  simp only [wp_bind', W.mark, W.pushRef, State.topJava?_setTop' _ XF'.here.top, Option.some.injEq, exists_eq_left', State.setTop_setTop, State.heap_setTop]
  intro acts
  simp [jvm, XF'.here.top]
  exact hrest
end VY2
