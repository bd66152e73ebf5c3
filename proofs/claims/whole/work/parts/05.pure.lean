/-! THE PURE SIDE: cells by numbers, a reference is a cell's number -/
abbrev pC : Type := Nat × List Value
abbrev pM : Type := List pC
abbrev pL : Type := List (Option Value)
def pz (ad : Nat → Nat) (v : Value) : Value := match v with
  | .ref k => .ref (ad k)
  | .retAddr a => .ref a
  | w => w
theorem pz_int (ad : Nat → Nat) (x : Int32) : pz ad (.int x) = .int x := rfl
theorem pz_ref (ad : Nat → Nat) (k : Nat) : pz ad (.ref k) = .ref (ad k) := rfl
theorem pz_cat (ad : Nat → Nat) (v : Value) : (pz ad v).category = v.category := by cases v <;> rfl
theorem pz_cats (ad : Nat → Nat) (st : List Value) : (st.map (pz ad)).map (fun v => v.category) = st.map (fun v => v.category) := by
  induction st with
  | nil => rfl
  | cons v t ih => simp only [List.map_cons, ih, pz_cat]
def pgi (vs : List Value) (j : Nat) : Int32 := match vs[j]? with
  | some (.int x) => x
  | _ => 0
def pgl (vs : List Value) (j : Nat) : Int64 := match vs[j]? with
  | some (.long x) => x
  | _ => 0
def pgr (ad : Nat → Nat) (vs : List Value) (j : Nat) : Option Nat := match vs[j]? with
  | some (.ref k) => some (ad k)
  | _ => none
/-- tags below 100: an object of that kind; 100: int[]; 101: long[]; 102: boolean[]; above: an array of references -/
def pe (cA : Nat → ClassId) (ad : Nat → Nat) (c : pC) : va_E :=
  if c.1 < 100 then .inr (c.1, c.2.map (pz ad))
  else if c.1 = 100 then .inl (cA 0, c.2.length, .inl (pgi c.2))
  else if c.1 = 101 then .inl (cA 1, c.2.length, .inr (.inl (pgl c.2)))
  else if c.1 = 102 then .inl (cA 2, c.2.length, .inl (pgi c.2))
  else .inl (cA (c.1 - 100), c.2.length, .inr (.inr (.inr (.inr (pgr ad c.2)))))
theorem pe_o {cA : Nat → ClassId} {ad : Nat → Nat} {ci : Nat} {fs : List Value} (h : ci < 100) : pe cA ad (ci, fs) = .inr (ci, fs.map (pz ad)) := by simp [pe, h]
theorem pe_i {cA : Nat → ClassId} {ad : Nat → Nat} {fs : List Value} : pe cA ad (100, fs) = .inl (cA 0, fs.length, .inl (pgi fs)) := by simp [pe]
theorem pe_l {cA : Nat → ClassId} {ad : Nat → Nat} {fs : List Value} : pe cA ad (101, fs) = .inl (cA 1, fs.length, .inr (.inl (pgl fs))) := by simp [pe]
theorem pe_z {cA : Nat → ClassId} {ad : Nat → Nat} {fs : List Value} : pe cA ad (102, fs) = .inl (cA 2, fs.length, .inl (pgi fs)) := by simp [pe]
theorem pe_q {cA : Nat → ClassId} {ad : Nat → Nat} {t : Nat} {fs : List Value} (h : 102 < t) : pe cA ad (t, fs) = .inl (cA (t - 100), fs.length, .inr (.inr (.inr (.inr (pgr ad fs))))) := by
  have h1 : ¬ t < 100 := by omega
  have h2 : ¬ t = 100 := by omega
  have h3 : ¬ t = 101 := by omega
  have h4 : ¬ t = 102 := by omega
  simp [pe, h1, h2, h3, h4]
def pw (cA : Nat → ClassId) (ad : Nat → Nat) (mem : pM) : va_W := mem.mapIdx (fun k c => (ad k, pe cA ad c))
theorem pw_get {cA : Nat → ClassId} {ad : Nat → Nat} {mem : pM} {k : Nat} {c : pC} (h : mem[k]? = some c) : (pw cA ad mem)[k]? = some (ad k, pe cA ad c) := by simp [pw, h]
theorem pw_set {cA : Nat → ClassId} {ad : Nat → Nat} {mem : pM} {k : Nat} {c c' : pC} (h : mem[k]? = some c') : (pw cA ad mem).set k (ad k, pe cA ad c) = pw cA ad (mem.set k c) := by
  have hk : k < mem.length := (List.getElem?_eq_some_iff.mp h).1
  apply List.ext_getElem?
  intro i
  by_cases hi : i = k
  · subst hi
    rw [List.getElem?_set_self (by simp [pw]; exact hk)]
    simp [pw, hk]
  · rw [List.getElem?_set_ne (Ne.symm hi)]
    simp [pw, List.getElem?_set_ne (Ne.symm hi)]
theorem pgi_set {vs : List Value} {i : Nat} {x : Int32} (h : i < vs.length) : upd (pgi vs) i x = pgi (vs.set i (.int x)) := by
  funext j
  by_cases hj : j = i
  · subst hj
    simp [upd, pgi, h]
  · simp [upd, pgi, hj, List.getElem?_set_ne (Ne.symm hj)]
theorem pgl_set {vs : List Value} {i : Nat} {x : Int64} (h : i < vs.length) : vp_updL (pgl vs) i x = pgl (vs.set i (.long x)) := by
  funext j
  by_cases hj : j = i
  · subst hj
    simp [vp_updL, pgl, h]
  · simp [vp_updL, pgl, hj, List.getElem?_set_ne (Ne.symm hj)]
theorem pgr_set {ad : Nat → Nat} {vs : List Value} {i k : Nat} (h : i < vs.length) : va_up (pgr ad vs) i (some (ad k)) = pgr ad (vs.set i (.ref k)) := by
  funext j
  by_cases hj : j = i
  · subst hj
    simp [va_up, pgr, h]
  · simp [va_up, pgr, hj, List.getElem?_set_ne (Ne.symm hj)]
theorem pmap_set (ad : Nat → Nat) (fs : List Value) (k : Nat) (v : Value) : (fs.map (pz ad)).set k (pz ad v) = (fs.set k v).map (pz ad) := by rw [List.map_set]
/-- locals: what is known of them; all of category 1 -/
def plo (ad : Nat → Nat) (ls : Array Slot) (nL : Nat) (L : pL) : Prop := ls.size = nL ∧ lv_wf ls ∧ ∀ (i : Nat) (v : Value), L[i]? = some (some v) → ls[i]? = some (.val (pz ad v)) ∧ v.category = 1
def pas (ad : Nat → Nat) (L : pL) : List (Nat × Value) := (List.range L.length).filterMap (fun i => match L[i]? with
  | some (some v) => some (i, pz ad v)
  | _ => none)
theorem pas_mem {ad : Nat → Nat} {L : pL} {q : Nat × Value} (h : q ∈ pas ad L) : ∃ v, L[q.1]? = some (some v) ∧ q.2 = pz ad v := by
  obtain ⟨i, -, hi⟩ := List.mem_filterMap.mp h
  cases hL : L[i]? with
  | none => rw [hL] at hi; cases hi
  | some o =>
    cases o with
    | none => rw [hL] at hi; cases hi
    | some v => rw [hL] at hi; cases hi; exact ⟨v, hL, rfl⟩
theorem pas_in {ad : Nat → Nat} {L : pL} {i : Nat} {v : Value} (h : L[i]? = some (some v)) : (i, pz ad v) ∈ pas ad L := by
  refine List.mem_filterMap.mpr ⟨i, List.mem_range.mpr (List.getElem?_eq_some_iff.mp h).1, ?_⟩
  rw [h]
theorem plo_has {ad : Nat → Nat} {ls : Array Slot} {nL : Nat} {L : pL} (h : plo ad ls nL L) : lv_has ls nL (pas ad L) := by
  refine ⟨h.1, h.2.1, fun q hq => ?_⟩
  obtain ⟨v, h1, h2⟩ := pas_mem hq
  rw [h2]
  exact (h.2.2 _ _ h1).1
theorem plo_store {ad : Nat → Nat} {ls ls' : Array Slot} {nL : Nat} {L : pL} {i : Nat} {v : Value} (h : plo ad ls nL L) (hc : v.category = 1)
    (h' : lv_has ls' nL ((i, pz ad v) :: (pas ad L).filter (fun q => !(q.1 == i) && !(q.1 + 1 == i && q.2.category == 2)))) : plo ad ls' nL (L.set i (some v)) := by
  refine ⟨h'.1, h'.2.1, fun j w hj => ?_⟩
  by_cases hji : j = i
  · subst hji
    have hl : j < (L.set j (some v)).length := (List.getElem?_eq_some_iff.mp hj).1
    rw [List.getElem?_set_self (by simpa using hl)] at hj
    cases hj
    exact ⟨h'.2.2 _ List.mem_cons_self, hc⟩
  · rw [List.getElem?_set_ne (Ne.symm hji)] at hj
    obtain ⟨-, hw⟩ := h.2.2 j w hj
    refine ⟨h'.2.2 (j, pz ad w) (List.mem_cons_of_mem _ (List.mem_filter.mpr ⟨pas_in hj, ?_⟩)), hw⟩
    simp [hji, pz_cat, hw]
theorem plo_forget {ad : Nat → Nat} {ls : Array Slot} {nL : Nat} {L L' : pL} (h : plo ad ls nL L) (hs : ∀ (i : Nat) (v : Value), L'[i]? = some (some v) → L[i]? = some (some v)) : plo ad ls nL L' := ⟨h.1, h.2.1, fun i v hv => h.2.2 i v (hs i v hv)⟩
