theorem hpeI (N : Nat) : ∀ (cA : Nat → ClassId) (ad : Nat → Nat), ∃ a0 : vp_A, pe cA ad (100, List.replicate N (.int 0)) = .inl (cA (100 - 100), a0) ∧ ∀ c : ClassId, vp_cell c a0 = arrV c N (fun _ => defaultValue .int) := fun cA ad => by
  refine ⟨_, pe_i, fun c => ?_⟩
  rw [vp_cell_i, List.length_replicate]
  exact congrArg (arrV c N) (funext (fun j => congrArg Value.int (pgi_zero N j)))
theorem hpeZ (N : Nat) : ∀ (cA : Nat → ClassId) (ad : Nat → Nat), ∃ a0 : vp_A, pe cA ad (102, List.replicate N (.int 0)) = .inl (cA (102 - 100), a0) ∧ ∀ c : ClassId, vp_cell c a0 = arrV c N (fun _ => defaultValue .boolean) := fun cA ad => by
  refine ⟨_, pe_z, fun c => ?_⟩
  rw [vp_cell_i, List.length_replicate]
  exact congrArg (arrV c N) (funext (fun j => congrArg Value.int (pgi_zero N j)))
theorem hpeL (N : Nat) : ∀ (cA : Nat → ClassId) (ad : Nat → Nat), ∃ a0 : vp_A, pe cA ad (101, List.replicate N (.long 0)) = .inl (cA (101 - 100), a0) ∧ ∀ c : ClassId, vp_cell c a0 = arrV c N (fun _ => defaultValue .long) := fun cA ad => by
  refine ⟨_, pe_l, fun c => ?_⟩
  rw [vp_cell_l, List.length_replicate]
  exact congrArg (arrV c N) (funext (fun j => congrArg Value.long (pgl_zero N j)))
theorem gApp {mem tl : pM} {i : Nat} {c : pC} (h : mem[i]? = some c) : (mem ++ tl)[i]? = some c := by rw [List.getElem?_append_left (List.getElem?_eq_some_iff.mp h).1]; exact h
theorem gSet {mem : pM} {i : Nat} {c c' : pC} (h : mem[i]? = some c) : (mem.set i c')[i]? = some c' := List.getElem?_set_self (List.getElem?_eq_some_iff.mp h).1
theorem sSet {mem : pM} {i : Nat} {c c' : pC} : (mem.set i c).set i c' = mem.set i c' := List.set_set ..
/-- places behind a known number of cells -/
theorem gP {pre tl : pM} {n k : Nat} (i : Nat) (hp : pre.length = n) (hk : k = n + i) : (pre ++ tl)[k]? = tl[i]? := by
  subst hk
  rw [List.getElem?_append_right (by omega)]
  congr 1
  omega
theorem sP {pre tl : pM} {n k : Nat} {c : pC} (i : Nat) (hp : pre.length = n) (hk : k = n + i) : (pre ++ tl).set k c = pre ++ tl.set i c := by
  subst hk
  rw [List.set_append_right _ _ (by omega)]
  congr 2
  omega
set_option maxRecDepth 100000 in
set_option maxHeartbeats 4000000 in
theorem c_initBook {mem : pM} {b : Nat} (hm : mem[b]? = some (0, [.null, .int 0])) (l9 : Launch) : pMet l9 yX0_init kX0_init true [.ref b] (mem) (fun v m9 => v = none ∧ m9 = (mem ++ [(100, List.replicate 240 (Value.int 0))]).set b (0, [Value.ref mem.length, Value.int 0])) (fun _ _ => False) := by
  refine pMet.ofI (by decide) rfl rfl rfl rfl (by intro v hv; simp only [List.mem_cons, List.not_mem_nil, or_false] at hv; subst hv; rfl) (Nat.le_of_ble_eq_true rfl) ?_
  show PW _ _ _ _ _ 0 [some (.ref b)] [] (mem) 0 0
  refine PW.aload_n (i := 0) dX0_init_0 rfl rfl ?_
  refine PW.objInit dX0_init_1 (by decide +kernel) (by decide +kernel) (by decide +kernel) (by decide) (Nat.le_of_ble_eq_true rfl) ?_
  refine PW.aload_n (i := 0) dX0_init_4 rfl rfl ?_
  refine PW.sipush (v := 240) dX0_init_5 (by decide) ?_
  refine PW.newa (tag := 100) (fs := List.replicate 240 (.int 0)) dX0_init_8 (by decide +kernel) rfl rfl (fun _ => rfl) (hpeI 240) rfl (by decide) (by decide) rfl (Nat.le_of_ble_eq_true rfl) (Nat.le_of_ble_eq_true rfl) ?_
  refine PW.putF (mem' := (mem ++ [(100, List.replicate 240 (Value.int 0))]).set b (0, [Value.ref mem.length, Value.int 0])) FX0_init_9 FwF_0_0 (by decide) dX0_init_10 (gApp hm) (Nat.le_of_ble_eq_true rfl) (fun _ => rfl) (fun _ => rfl) rfl ?_
  exact PW.vret dX0_init_13 rfl ⟨rfl, rfl⟩ (Nat.le_of_ble_eq_true rfl) (Nat.le_of_ble_eq_true rfl)
set_option maxRecDepth 100000 in
set_option maxHeartbeats 4000000 in
theorem c_initGroup {mem : pM} {b : Nat} (hm : mem[b]? = some (1, [.null, .int 0, .int 0, .int 0])) (l9 : Launch) : pMet l9 yX1_init kX1_init true [.ref b] (mem) (fun v m9 => v = none ∧ m9 = (mem ++ [(100, List.replicate 6 (Value.int 0))]).set b (1, [.ref mem.length, .int 0, .int 0, .int (-1)])) (fun _ _ => False) := by
  refine pMet.ofI (by decide) rfl rfl rfl rfl (by intro v hv; simp only [List.mem_cons, List.not_mem_nil, or_false] at hv; subst hv; rfl) (Nat.le_of_ble_eq_true rfl) ?_
  show PW _ _ _ _ _ 0 [some (.ref b)] [] (mem) 0 0
  refine PW.aload_n (i := 0) dX1_init_0 rfl rfl ?_
  refine PW.objInit dX1_init_1 (by decide +kernel) (by decide +kernel) (by decide +kernel) (by decide) (Nat.le_of_ble_eq_true rfl) ?_
  refine PW.aload_n (i := 0) dX1_init_4 rfl rfl ?_
  refine PW.bipush (v := 6) dX1_init_5 (by decide) ?_
  refine PW.newa (tag := 100) (fs := List.replicate 6 (.int 0)) dX1_init_7 (by decide +kernel) rfl rfl (fun _ => rfl) (hpeI 6) rfl (by decide) (by decide) rfl (Nat.le_of_ble_eq_true rfl) (Nat.le_of_ble_eq_true rfl) ?_
  refine PW.putF (mem' := (mem ++ [(100, List.replicate 6 (Value.int 0))]).set b (1, [.ref mem.length, .int 0, .int 0, .int 0])) FX1_init_9 FwF_1_0 (by decide) dX1_init_9 (gApp hm) (Nat.le_of_ble_eq_true rfl) (fun _ => rfl) (fun _ => rfl) rfl ?_
  refine PW.aload_n (i := 0) dX1_init_12 rfl rfl ?_
  refine PW.iconst (v := 0) dX1_init_13 (by decide) ?_
  refine PW.putf (mem' := (mem ++ [(100, List.replicate 6 (Value.int 0))]).set b (1, [.ref mem.length, .int 0, .int 0, .int 0])) FX1_init_15 (Fw_1_2 _) dX1_init_14 (gSet (gApp hm)) (Nat.le_of_ble_eq_true rfl) (fun _ => rfl) (fun _ => rfl) sSet ?_
  refine PW.aload_n (i := 0) dX1_init_17 rfl rfl ?_
  refine PW.iconst (v := (-1)) dX1_init_18 (by decide) ?_
  refine PW.putf (mem' := (mem ++ [(100, List.replicate 6 (Value.int 0))]).set b (1, [.ref mem.length, .int 0, .int 0, .int (-1)])) FX1_init_19 (Fw_1_3 _) dX1_init_19 (gSet (gApp hm)) (Nat.le_of_ble_eq_true rfl) (fun _ => rfl) (fun _ => rfl) sSet ?_
  exact PW.vret dX1_init_22 rfl ⟨rfl, rfl⟩ (Nat.le_of_ble_eq_true rfl) (Nat.le_of_ble_eq_true rfl)
set_option maxRecDepth 100000 in
set_option maxHeartbeats 4000000 in
theorem c_initLine {mem : pM} {b : Nat} (hm : mem[b]? = some (2, [.int 0, .int 0, .int 0, .int 0, .int 0, .int 0, .int 0, .int 0, .int 0, .int 0, .int 0])) (n : Int32) (l9 : Launch) : pMet l9 yX2_init kX2_init true [.ref b, .int n] (mem) (fun v m9 => v = none ∧ m9 = mem.set b (2, [.int n, .int 0, .int (-1), .int (-1), .int (-1), .int (-1), .int 0, .int 0, .int 0, .int 0, .int (-1)])) (fun _ _ => False) := by
  refine pMet.ofI (by decide) rfl rfl rfl rfl (by intro v hv; simp only [List.mem_cons, List.not_mem_nil, or_false] at hv; rcases hv with rfl | rfl <;> rfl) (Nat.le_of_ble_eq_true rfl) ?_
  show PW _ _ _ _ _ 0 [some (.ref b), some (.int n)] [] (mem) 0 0
  refine PW.aload_n (i := 0) dX2_init_0 rfl rfl ?_
  refine PW.objInit dX2_init_1 (by decide +kernel) (by decide +kernel) (by decide +kernel) (by decide) (Nat.le_of_ble_eq_true rfl) ?_
  refine PW.aload_n (i := 0) dX2_init_4 rfl rfl ?_
  refine PW.iconst (v := 0) dX2_init_5 (by decide) ?_
  refine PW.putf (mem' := mem.set b (2, [.int 0, .int 0, .int 0, .int 0, .int 0, .int 0, .int 0, .int 0, .int 0, .int 0, .int 0])) FX2_init_9 (Fw_2_1 _) dX2_init_6 hm (Nat.le_of_ble_eq_true rfl) (fun _ => rfl) (fun _ => rfl) rfl ?_
  refine PW.aload_n (i := 0) dX2_init_9 rfl rfl ?_
  refine PW.iconst (v := (-1)) dX2_init_10 (by decide) ?_
  refine PW.putf (mem' := mem.set b (2, [.int 0, .int 0, .int (-1), .int 0, .int 0, .int 0, .int 0, .int 0, .int 0, .int 0, .int 0])) FX2_init_15 (Fw_2_2 _) dX2_init_11 (gSet hm) (Nat.le_of_ble_eq_true rfl) (fun _ => rfl) (fun _ => rfl) sSet ?_
  refine PW.aload_n (i := 0) dX2_init_14 rfl rfl ?_
  refine PW.iconst (v := (-1)) dX2_init_15 (by decide) ?_
  refine PW.putf (mem' := mem.set b (2, [.int 0, .int 0, .int (-1), .int (-1), .int 0, .int 0, .int 0, .int 0, .int 0, .int 0, .int 0])) FX2_init_18 (Fw_2_3 _) dX2_init_16 (gSet hm) (Nat.le_of_ble_eq_true rfl) (fun _ => rfl) (fun _ => rfl) sSet ?_
  refine PW.aload_n (i := 0) dX2_init_19 rfl rfl ?_
  refine PW.iconst (v := (-1)) dX2_init_20 (by decide) ?_
  refine PW.putf (mem' := mem.set b (2, [.int 0, .int 0, .int (-1), .int (-1), .int (-1), .int 0, .int 0, .int 0, .int 0, .int 0, .int 0])) FX2_init_21 (Fw_2_4 _) dX2_init_21 (gSet hm) (Nat.le_of_ble_eq_true rfl) (fun _ => rfl) (fun _ => rfl) sSet ?_
  refine PW.aload_n (i := 0) dX2_init_24 rfl rfl ?_
  refine PW.iconst (v := (-1)) dX2_init_25 (by decide) ?_
  refine PW.putf (mem' := mem.set b (2, [.int 0, .int 0, .int (-1), .int (-1), .int (-1), .int (-1), .int 0, .int 0, .int 0, .int 0, .int 0])) FX2_init_24 (Fw_2_5 _) dX2_init_26 (gSet hm) (Nat.le_of_ble_eq_true rfl) (fun _ => rfl) (fun _ => rfl) sSet ?_
  refine PW.aload_n (i := 0) dX2_init_29 rfl rfl ?_
  refine PW.iconst (v := (-1)) dX2_init_30 (by decide) ?_
  refine PW.putf (mem' := mem.set b (2, [.int 0, .int 0, .int (-1), .int (-1), .int (-1), .int (-1), .int 0, .int 0, .int 0, .int 0, .int (-1)])) FX2_init_27 (Fw_2_10 _) dX2_init_31 (gSet hm) (Nat.le_of_ble_eq_true rfl) (fun _ => rfl) (fun _ => rfl) sSet ?_
  refine PW.aload_n (i := 0) dX2_init_34 rfl rfl ?_
  refine PW.iload_n (i := 1) dX2_init_35 rfl rfl ?_
  refine PW.putF (mem' := mem.set b (2, [.int n, .int 0, .int (-1), .int (-1), .int (-1), .int (-1), .int 0, .int 0, .int 0, .int 0, .int (-1)])) FX2_init_30 FwF_2_0 (by decide) dX2_init_36 (gSet hm) (Nat.le_of_ble_eq_true rfl) (fun _ => rfl) (fun _ => rfl) sSet ?_
  exact PW.vret dX2_init_39 rfl ⟨rfl, rfl⟩ (Nat.le_of_ble_eq_true rfl) (Nat.le_of_ble_eq_true rfl)
set_option maxRecDepth 100000 in
set_option maxHeartbeats 4000000 in
theorem c_initSwitch {pre : pM} (hp : pre.length = 26) (l9 : Launch) : pMet l9 yX3_init kX3_init true [.ref 26] (pre ++ [(3, [.null])]) (fun v m9 => v = none ∧ m9 = pre ++ [(3, [Value.ref 27]), (105, [Value.ref 28, Value.ref 29, Value.ref 30, Value.ref 31]), (100, List.replicate 8 (Value.int (-1))), (100, List.replicate 8 (Value.int (-1))), (100, List.replicate 8 (Value.int (-1))), (100, List.replicate 8 (Value.int (-1)))]) (fun _ _ => False) := by
  refine pMet.ofI (by decide) rfl rfl rfl rfl (by intro v hv; simp only [List.mem_cons, List.not_mem_nil, or_false] at hv; subst hv; rfl) (Nat.le_of_ble_eq_true rfl) ?_
  show PW _ _ _ _ _ 0 [some (.ref 26), none] [] (pre ++ [(3, [.null])]) 0 0
  refine PW.aload_n (i := 0) dX3_init_0 rfl rfl ?_
  refine PW.objInit dX3_init_1 (by decide +kernel) (by decide +kernel) (by decide +kernel) (by decide) (Nat.le_of_ble_eq_true rfl) ?_
  refine PW.aload_n (i := 0) dX3_init_4 rfl rfl ?_
  refine PW.iconst (v := 4) dX3_init_5 (by decide) ?_
  refine PW.bipush (v := 8) dX3_init_6 (by decide) ?_
  refine PW.mna dX3_init_8 (by decide +kernel) (by decide +kernel) rfl (Nat.le_of_ble_eq_true rfl) (Nat.le_of_ble_eq_true rfl) ?_
  have hl27 : (pre ++ [(3, [.null])] : pM).length = 27 := by rw [List.length_append, hp]; rfl
  rw [hl27, show (pre ++ [(3, [Value.null])] ++ mnC 27 : pM) = pre ++ [(3, [Value.null]), (105, [Value.ref 28, Value.ref 29, Value.ref 30, Value.ref 31]), (100, zRow), (100, zRow), (100, zRow), (100, zRow)] by rw [List.append_assoc]; rfl]
  refine PW.putF (mem' := pre ++ [(3, [Value.ref 27]), (105, [Value.ref 28, Value.ref 29, Value.ref 30, Value.ref 31]), (100, zRow), (100, zRow), (100, zRow), (100, zRow)]) FX3_init_11 FwF_3_0 (by decide) dX3_init_12 (gP 0 hp rfl) (Nat.le_of_ble_eq_true rfl) (fun _ => rfl) (fun _ => rfl) (sP 0 hp rfl) ?_
  refine PW.iconst (v := 0) dX3_init_15 (by decide) ?_
  refine PW.istore_n (i := 1) dX3_init_16 rfl (by decide) rfl ?_
  refine PW.iload_n (i := 1) dX3_init_17 rfl rfl ?_
  refine PW.iconst (v := 4) dX3_init_18 (by decide) ?_
  refine PW.icmp_ge (tgt := 38) dX3_init_19 (by decide) (fun h => absurd h (by decide)) (fun _ => ?_)
  refine PW.aload_n (i := 0) dX3_init_22 rfl rfl ?_
  refine PW.getf FX3_init_11 dX3_init_23 (gP 0 hp rfl) rfl ?_
  refine PW.iload_n (i := 1) dX3_init_26 rfl rfl ?_
  refine PW.aald (n := 0) (q := 28) dX3_init_27 (gP 1 hp rfl) (by decide) (fun _ => rfl) rfl rfl (by decide) rfl ?_
  refine PW.iconst (v := (-1)) dX3_init_28 (by decide) ?_
  refine PW.callS (k := kX3_init) (n := 2) (c_fill (a := 28) (N := 8) (gP 2 hp rfl) rfl (by decide) (-1)) dX3_init_29 gX3_init_J7_fill_53178 rfl hs_J7_fill_53178 rfl ⟨by decide, by decide⟩ ⟨rfl, rfl⟩ (Nat.le_of_ble_eq_true rfl) ⟨Nat.le_of_ble_eq_true rfl, Nat.le_of_ble_eq_true rfl⟩ rfl (fun v m9 hp9 => ?_) (fun _ _ hx => hx.elim)
  obtain ⟨rfl, rfl⟩ := hp9
  rw [show (pre ++ [(3, [Value.ref 27]), (105, [Value.ref 28, Value.ref 29, Value.ref 30, Value.ref 31]), (100, zRow), (100, zRow), (100, zRow), (100, zRow)] : pM).set 28 (100, List.replicate 8 (.int (-1))) = pre ++ [(3, [Value.ref 27]), (105, [Value.ref 28, Value.ref 29, Value.ref 30, Value.ref 31]), (100, List.replicate 8 (Value.int (-1))), (100, zRow), (100, zRow), (100, zRow)] from sP 2 hp rfl]
  refine PW.iinc (v := 1) dX3_init_32 rfl (by decide) (by decide) rfl ?_
  refine PW.goto (tgt := 17) dX3_init_35 (by decide) ?_
  refine PW.iload_n (i := 1) dX3_init_17 rfl rfl ?_
  refine PW.iconst (v := 4) dX3_init_18 (by decide) ?_
  refine PW.icmp_ge (tgt := 38) dX3_init_19 (by decide) (fun h => absurd h (by decide)) (fun _ => ?_)
  refine PW.aload_n (i := 0) dX3_init_22 rfl rfl ?_
  refine PW.getf FX3_init_11 dX3_init_23 (gP 0 hp rfl) rfl ?_
  refine PW.iload_n (i := 1) dX3_init_26 rfl rfl ?_
  refine PW.aald (n := 1) (q := 29) dX3_init_27 (gP 1 hp rfl) (by decide) (fun _ => rfl) rfl rfl (by decide) rfl ?_
  refine PW.iconst (v := (-1)) dX3_init_28 (by decide) ?_
  refine PW.callS (k := kX3_init) (n := 2) (c_fill (a := 29) (N := 8) (gP 3 hp rfl) rfl (by decide) (-1)) dX3_init_29 gX3_init_J7_fill_53178 rfl hs_J7_fill_53178 rfl ⟨by decide, by decide⟩ ⟨rfl, rfl⟩ (Nat.le_of_ble_eq_true rfl) ⟨Nat.le_of_ble_eq_true rfl, Nat.le_of_ble_eq_true rfl⟩ rfl (fun v m9 hp9 => ?_) (fun _ _ hx => hx.elim)
  obtain ⟨rfl, rfl⟩ := hp9
  rw [show (pre ++ [(3, [Value.ref 27]), (105, [Value.ref 28, Value.ref 29, Value.ref 30, Value.ref 31]), (100, List.replicate 8 (Value.int (-1))), (100, zRow), (100, zRow), (100, zRow)] : pM).set 29 (100, List.replicate 8 (.int (-1))) = pre ++ [(3, [Value.ref 27]), (105, [Value.ref 28, Value.ref 29, Value.ref 30, Value.ref 31]), (100, List.replicate 8 (Value.int (-1))), (100, List.replicate 8 (Value.int (-1))), (100, zRow), (100, zRow)] from sP 3 hp rfl]
  refine PW.iinc (v := 2) dX3_init_32 rfl (by decide) (by decide) rfl ?_
  refine PW.goto (tgt := 17) dX3_init_35 (by decide) ?_
  refine PW.iload_n (i := 1) dX3_init_17 rfl rfl ?_
  refine PW.iconst (v := 4) dX3_init_18 (by decide) ?_
  refine PW.icmp_ge (tgt := 38) dX3_init_19 (by decide) (fun h => absurd h (by decide)) (fun _ => ?_)
  refine PW.aload_n (i := 0) dX3_init_22 rfl rfl ?_
  refine PW.getf FX3_init_11 dX3_init_23 (gP 0 hp rfl) rfl ?_
  refine PW.iload_n (i := 1) dX3_init_26 rfl rfl ?_
  refine PW.aald (n := 2) (q := 30) dX3_init_27 (gP 1 hp rfl) (by decide) (fun _ => rfl) rfl rfl (by decide) rfl ?_
  refine PW.iconst (v := (-1)) dX3_init_28 (by decide) ?_
  refine PW.callS (k := kX3_init) (n := 2) (c_fill (a := 30) (N := 8) (gP 4 hp rfl) rfl (by decide) (-1)) dX3_init_29 gX3_init_J7_fill_53178 rfl hs_J7_fill_53178 rfl ⟨by decide, by decide⟩ ⟨rfl, rfl⟩ (Nat.le_of_ble_eq_true rfl) ⟨Nat.le_of_ble_eq_true rfl, Nat.le_of_ble_eq_true rfl⟩ rfl (fun v m9 hp9 => ?_) (fun _ _ hx => hx.elim)
  obtain ⟨rfl, rfl⟩ := hp9
  rw [show (pre ++ [(3, [Value.ref 27]), (105, [Value.ref 28, Value.ref 29, Value.ref 30, Value.ref 31]), (100, List.replicate 8 (Value.int (-1))), (100, List.replicate 8 (Value.int (-1))), (100, zRow), (100, zRow)] : pM).set 30 (100, List.replicate 8 (.int (-1))) = pre ++ [(3, [Value.ref 27]), (105, [Value.ref 28, Value.ref 29, Value.ref 30, Value.ref 31]), (100, List.replicate 8 (Value.int (-1))), (100, List.replicate 8 (Value.int (-1))), (100, List.replicate 8 (Value.int (-1))), (100, zRow)] from sP 4 hp rfl]
  refine PW.iinc (v := 3) dX3_init_32 rfl (by decide) (by decide) rfl ?_
  refine PW.goto (tgt := 17) dX3_init_35 (by decide) ?_
  refine PW.iload_n (i := 1) dX3_init_17 rfl rfl ?_
  refine PW.iconst (v := 4) dX3_init_18 (by decide) ?_
  refine PW.icmp_ge (tgt := 38) dX3_init_19 (by decide) (fun h => absurd h (by decide)) (fun _ => ?_)
  refine PW.aload_n (i := 0) dX3_init_22 rfl rfl ?_
  refine PW.getf FX3_init_11 dX3_init_23 (gP 0 hp rfl) rfl ?_
  refine PW.iload_n (i := 1) dX3_init_26 rfl rfl ?_
  refine PW.aald (n := 3) (q := 31) dX3_init_27 (gP 1 hp rfl) (by decide) (fun _ => rfl) rfl rfl (by decide) rfl ?_
  refine PW.iconst (v := (-1)) dX3_init_28 (by decide) ?_
  refine PW.callS (k := kX3_init) (n := 2) (c_fill (a := 31) (N := 8) (gP 5 hp rfl) rfl (by decide) (-1)) dX3_init_29 gX3_init_J7_fill_53178 rfl hs_J7_fill_53178 rfl ⟨by decide, by decide⟩ ⟨rfl, rfl⟩ (Nat.le_of_ble_eq_true rfl) ⟨Nat.le_of_ble_eq_true rfl, Nat.le_of_ble_eq_true rfl⟩ rfl (fun v m9 hp9 => ?_) (fun _ _ hx => hx.elim)
  obtain ⟨rfl, rfl⟩ := hp9
  rw [show (pre ++ [(3, [Value.ref 27]), (105, [Value.ref 28, Value.ref 29, Value.ref 30, Value.ref 31]), (100, List.replicate 8 (Value.int (-1))), (100, List.replicate 8 (Value.int (-1))), (100, List.replicate 8 (Value.int (-1))), (100, zRow)] : pM).set 31 (100, List.replicate 8 (.int (-1))) = pre ++ [(3, [Value.ref 27]), (105, [Value.ref 28, Value.ref 29, Value.ref 30, Value.ref 31]), (100, List.replicate 8 (Value.int (-1))), (100, List.replicate 8 (Value.int (-1))), (100, List.replicate 8 (Value.int (-1))), (100, List.replicate 8 (Value.int (-1)))] from sP 5 hp rfl]
  refine PW.iinc (v := 4) dX3_init_32 rfl (by decide) (by decide) rfl ?_
  refine PW.goto (tgt := 17) dX3_init_35 (by decide) ?_
  refine PW.iload_n (i := 1) dX3_init_17 rfl rfl ?_
  refine PW.iconst (v := 4) dX3_init_18 (by decide) ?_
  refine PW.icmp_ge (tgt := 38) dX3_init_19 (by decide) (fun _ => ?_) (fun h => absurd (by decide) h)
  exact PW.vret dX3_init_38 rfl ⟨rfl, rfl⟩ (Nat.le_of_ble_eq_true rfl) (Nat.le_of_ble_eq_true rfl)
