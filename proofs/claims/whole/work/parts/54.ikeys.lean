abbrev kJ7_fill_53178 : pK := (RJ7, cJ7_fill_53178, 4, wsJ7_fill_53178, { frames := 0, cells := 0, slots := 0, locals := 0 }, none, [], 0, 0, pNo)
abbrev kX0_init : pK := (RX0, cX0_init, 1, wsX0_init, { frames := 1, cells := 1, slots := 240, locals := 30 }, none, [], 1, 240, pNo)
theorem FX0_init_9 : pF kX0_init.Ts kX0_init.own 9 0 0 := ⟨_, _, _, by decide, rfl, by decide, by decide +kernel, by decide +kernel⟩
abbrev kX1_init : pK := (RX1, cX1_init, 1, wsX1_init, { frames := 1, cells := 1, slots := 6, locals := 30 }, none, [], 1, 6, pNo)
theorem FX1_init_9 : pF kX1_init.Ts kX1_init.own 9 1 0 := ⟨_, _, _, by decide, rfl, by decide, by decide +kernel, by decide +kernel⟩
theorem FX1_init_15 : pF kX1_init.Ts kX1_init.own 15 1 2 := ⟨_, _, _, by decide, rfl, by decide, by decide +kernel, by decide +kernel⟩
theorem FX1_init_19 : pF kX1_init.Ts kX1_init.own 19 1 3 := ⟨_, _, _, by decide, rfl, by decide, by decide +kernel, by decide +kernel⟩
abbrev kX2_init : pK := (RX2, cX2_init, 2, wsX2_init, { frames := 1, cells := 0, slots := 0, locals := 30 }, none, [], 0, 0, pNo)
theorem FX2_init_9 : pF kX2_init.Ts kX2_init.own 9 2 1 := ⟨_, _, _, by decide, rfl, by decide, by decide +kernel, by decide +kernel⟩
theorem FX2_init_15 : pF kX2_init.Ts kX2_init.own 15 2 2 := ⟨_, _, _, by decide, rfl, by decide, by decide +kernel, by decide +kernel⟩
theorem FX2_init_18 : pF kX2_init.Ts kX2_init.own 18 2 3 := ⟨_, _, _, by decide, rfl, by decide, by decide +kernel, by decide +kernel⟩
theorem FX2_init_21 : pF kX2_init.Ts kX2_init.own 21 2 4 := ⟨_, _, _, by decide, rfl, by decide, by decide +kernel, by decide +kernel⟩
theorem FX2_init_24 : pF kX2_init.Ts kX2_init.own 24 2 5 := ⟨_, _, _, by decide, rfl, by decide, by decide +kernel, by decide +kernel⟩
theorem FX2_init_27 : pF kX2_init.Ts kX2_init.own 27 2 10 := ⟨_, _, _, by decide, rfl, by decide, by decide +kernel, by decide +kernel⟩
theorem FX2_init_30 : pF kX2_init.Ts kX2_init.own 30 2 0 := ⟨_, _, _, by decide, rfl, by decide, by decide +kernel, by decide +kernel⟩
abbrev kX3_init : pK := (RX3, cX3_init, 2, wsX3_init, { frames := 1, cells := 5, slots := 36, locals := 30 }, none, [], 5, 36, pNo)
theorem FX3_init_11 : pF kX3_init.Ts kX3_init.own 11 3 0 := ⟨_, _, _, by decide, rfl, by decide, by decide +kernel, by decide +kernel⟩
abbrev kX4_init : pK := (RX4, cX4_init, 2, wsX4_init, { frames := 2, cells := 43, slots := 615, locals := 60 }, none, [], 43, 615, pNo)
theorem FX4_init_11 : pF kX4_init.Ts kX4_init.own 11 4 0 := ⟨_, _, _, by decide, rfl, by decide, by decide +kernel, by decide +kernel⟩
theorem FX4_init_21 : pF kX4_init.Ts kX4_init.own 21 4 1 := ⟨_, _, _, by decide, rfl, by decide, by decide +kernel, by decide +kernel⟩
theorem FX4_init_27 : pF kX4_init.Ts kX4_init.own 27 4 2 := ⟨_, _, _, by decide, rfl, by decide, by decide +kernel, by decide +kernel⟩
theorem FX4_init_32 : pF kX4_init.Ts kX4_init.own 32 4 3 := ⟨_, _, _, by decide, rfl, by decide, by decide +kernel, by decide +kernel⟩
theorem FX4_init_45 : pF kX4_init.Ts kX4_init.own 45 4 4 := ⟨_, _, _, by decide, rfl, by decide, by decide +kernel, by decide +kernel⟩
abbrev kX5_init : pK := (RX5, cX5_init, 2, wsX5_init, { frames := 1, cells := 20, slots := 624, locals := 30 }, none, [], 20, 624, pNo)
theorem FX5_init_7 : pF kX5_init.Ts kX5_init.own 7 5 2 := ⟨_, _, _, by decide, rfl, by decide, by decide +kernel, by decide +kernel⟩
theorem FX5_init_13 : pF kX5_init.Ts kX5_init.own 13 5 3 := ⟨_, _, _, by decide, rfl, by decide, by decide +kernel, by decide +kernel⟩
theorem FX5_init_16 : pF kX5_init.Ts kX5_init.own 16 5 4 := ⟨_, _, _, by decide, rfl, by decide, by decide +kernel, by decide +kernel⟩
theorem FX5_init_19 : pF kX5_init.Ts kX5_init.own 19 5 5 := ⟨_, _, _, by decide, rfl, by decide, by decide +kernel, by decide +kernel⟩
theorem FX5_init_22 : pF kX5_init.Ts kX5_init.own 22 5 6 := ⟨_, _, _, by decide, rfl, by decide, by decide +kernel, by decide +kernel⟩
theorem FX5_init_25 : pF kX5_init.Ts kX5_init.own 25 5 7 := ⟨_, _, _, by decide, rfl, by decide, by decide +kernel, by decide +kernel⟩
theorem FX5_init_28 : pF kX5_init.Ts kX5_init.own 28 5 8 := ⟨_, _, _, by decide, rfl, by decide, by decide +kernel, by decide +kernel⟩
theorem FX5_init_31 : pF kX5_init.Ts kX5_init.own 31 5 10 := ⟨_, _, _, by decide, rfl, by decide, by decide +kernel, by decide +kernel⟩
theorem FX5_init_34 : pF kX5_init.Ts kX5_init.own 34 5 11 := ⟨_, _, _, by decide, rfl, by decide, by decide +kernel, by decide +kernel⟩
theorem FX5_init_38 : pF kX5_init.Ts kX5_init.own 38 5 12 := ⟨_, _, _, by decide, rfl, by decide, by decide +kernel, by decide +kernel⟩
theorem FX5_init_41 : pF kX5_init.Ts kX5_init.own 41 5 13 := ⟨_, _, _, by decide, rfl, by decide, by decide +kernel, by decide +kernel⟩
theorem FX5_init_44 : pF kX5_init.Ts kX5_init.own 44 5 14 := ⟨_, _, _, by decide, rfl, by decide, by decide +kernel, by decide +kernel⟩
theorem FX5_init_47 : pF kX5_init.Ts kX5_init.own 47 5 15 := ⟨_, _, _, by decide, rfl, by decide, by decide +kernel, by decide +kernel⟩
theorem FX5_init_50 : pF kX5_init.Ts kX5_init.own 50 5 16 := ⟨_, _, _, by decide, rfl, by decide, by decide +kernel, by decide +kernel⟩
theorem FX5_init_53 : pF kX5_init.Ts kX5_init.own 53 5 17 := ⟨_, _, _, by decide, rfl, by decide, by decide +kernel, by decide +kernel⟩
theorem FX5_init_56 : pF kX5_init.Ts kX5_init.own 56 5 18 := ⟨_, _, _, by decide, rfl, by decide, by decide +kernel, by decide +kernel⟩
theorem FX5_init_59 : pF kX5_init.Ts kX5_init.own 59 5 19 := ⟨_, _, _, by decide, rfl, by decide, by decide +kernel, by decide +kernel⟩
theorem FX5_init_62 : pF kX5_init.Ts kX5_init.own 62 5 20 := ⟨_, _, _, by decide, rfl, by decide, by decide +kernel, by decide +kernel⟩
theorem FX5_init_65 : pF kX5_init.Ts kX5_init.own 65 5 21 := ⟨_, _, _, by decide, rfl, by decide, by decide +kernel, by decide +kernel⟩
theorem FX5_init_68 : pF kX5_init.Ts kX5_init.own 68 5 24 := ⟨_, _, _, by decide, rfl, by decide, by decide +kernel, by decide +kernel⟩
theorem FwF_0_0 : pFw RX0 0 0 true (.array .int) := ⟨_, _, _, _, rfl, tyX0_ok, nmX0, rfl, by decide +kernel, fun _ => rfl⟩
theorem FwF_1_0 : pFw RX1 1 0 true (.array .int) := ⟨_, _, _, _, rfl, tyX1_ok, nmX1, rfl, by decide +kernel, fun _ => rfl⟩
theorem FwF_2_0 : pFw RX2 2 0 true .int := ⟨_, _, _, _, rfl, tyX2_ok, nmX2, rfl, by decide +kernel, fun _ => rfl⟩
theorem FwF_3_0 : pFw RX3 3 0 true (.array (.array .int)) := ⟨_, _, _, _, rfl, tyX3_ok, nmX3, rfl, by decide +kernel, fun _ => rfl⟩
theorem FwF_4_0 : pFw RX4 4 0 true (.array (.object "ExchangeDesk$Line")) := ⟨_, _, _, _, rfl, tyX4_ok, nmX4, rfl, by decide +kernel, fun _ => rfl⟩
theorem FwF_4_1 : pFw RX4 4 1 true (.object "ExchangeDesk$Switch") := ⟨_, _, _, _, rfl, tyX4_ok, nmX4, rfl, by decide +kernel, fun _ => rfl⟩
theorem FwF_4_2 : pFw RX4 4 2 true (.array (.object "ExchangeDesk$Group")) := ⟨_, _, _, _, rfl, tyX4_ok, nmX4, rfl, by decide +kernel, fun _ => rfl⟩
theorem FwF_4_3 : pFw RX4 4 3 true (.array .int) := ⟨_, _, _, _, rfl, tyX4_ok, nmX4, rfl, by decide +kernel, fun _ => rfl⟩
theorem FwF_4_4 : pFw RX4 4 4 true (.object "ExchangeDesk$Book") := ⟨_, _, _, _, rfl, tyX4_ok, nmX4, rfl, by decide +kernel, fun _ => rfl⟩
theorem FwF_5_2 : pFw RX5 5 2 true (.array .int) := ⟨_, _, _, _, rfl, tyX5_ok, nmX5, rfl, by decide +kernel, fun _ => rfl⟩
theorem FwF_5_3 : pFw RX5 5 3 true (.array .int) := ⟨_, _, _, _, rfl, tyX5_ok, nmX5, rfl, by decide +kernel, fun _ => rfl⟩
theorem FwF_5_4 : pFw RX5 5 4 true (.array .int) := ⟨_, _, _, _, rfl, tyX5_ok, nmX5, rfl, by decide +kernel, fun _ => rfl⟩
theorem FwF_5_5 : pFw RX5 5 5 true (.array .int) := ⟨_, _, _, _, rfl, tyX5_ok, nmX5, rfl, by decide +kernel, fun _ => rfl⟩
theorem FwF_5_6 : pFw RX5 5 6 true (.array .int) := ⟨_, _, _, _, rfl, tyX5_ok, nmX5, rfl, by decide +kernel, fun _ => rfl⟩
theorem FwF_5_7 : pFw RX5 5 7 true (.array .int) := ⟨_, _, _, _, rfl, tyX5_ok, nmX5, rfl, by decide +kernel, fun _ => rfl⟩
theorem FwF_5_8 : pFw RX5 5 8 true (.array .int) := ⟨_, _, _, _, rfl, tyX5_ok, nmX5, rfl, by decide +kernel, fun _ => rfl⟩
theorem FwF_5_10 : pFw RX5 5 10 true (.array .int) := ⟨_, _, _, _, rfl, tyX5_ok, nmX5, rfl, by decide +kernel, fun _ => rfl⟩
theorem FwF_5_11 : pFw RX5 5 11 true (.array .boolean) := ⟨_, _, _, _, rfl, tyX5_ok, nmX5, rfl, by decide +kernel, fun _ => rfl⟩
theorem FwF_5_12 : pFw RX5 5 12 true (.array .int) := ⟨_, _, _, _, rfl, tyX5_ok, nmX5, rfl, by decide +kernel, fun _ => rfl⟩
theorem FwF_5_13 : pFw RX5 5 13 true (.array .boolean) := ⟨_, _, _, _, rfl, tyX5_ok, nmX5, rfl, by decide +kernel, fun _ => rfl⟩
theorem FwF_5_14 : pFw RX5 5 14 true (.array .int) := ⟨_, _, _, _, rfl, tyX5_ok, nmX5, rfl, by decide +kernel, fun _ => rfl⟩
theorem FwF_5_15 : pFw RX5 5 15 true (.array .int) := ⟨_, _, _, _, rfl, tyX5_ok, nmX5, rfl, by decide +kernel, fun _ => rfl⟩
theorem FwF_5_16 : pFw RX5 5 16 true (.array .int) := ⟨_, _, _, _, rfl, tyX5_ok, nmX5, rfl, by decide +kernel, fun _ => rfl⟩
theorem FwF_5_17 : pFw RX5 5 17 true (.array .int) := ⟨_, _, _, _, rfl, tyX5_ok, nmX5, rfl, by decide +kernel, fun _ => rfl⟩
theorem FwF_5_18 : pFw RX5 5 18 true (.array .int) := ⟨_, _, _, _, rfl, tyX5_ok, nmX5, rfl, by decide +kernel, fun _ => rfl⟩
theorem FwF_5_19 : pFw RX5 5 19 true (.array .int) := ⟨_, _, _, _, rfl, tyX5_ok, nmX5, rfl, by decide +kernel, fun _ => rfl⟩
theorem FwF_5_20 : pFw RX5 5 20 true (.array .int) := ⟨_, _, _, _, rfl, tyX5_ok, nmX5, rfl, by decide +kernel, fun _ => rfl⟩
theorem FwF_5_21 : pFw RX5 5 21 true (.array .int) := ⟨_, _, _, _, rfl, tyX5_ok, nmX5, rfl, by decide +kernel, fun _ => rfl⟩
theorem FwF_5_24 : pFw RX5 5 24 true (.array .int) := ⟨_, _, _, _, rfl, tyX5_ok, nmX5, rfl, by decide +kernel, fun _ => rfl⟩
theorem hi_X0_init : yX0_init.cls ≠ "java/lang/invoke/MethodHandle" ∧ yX0_init.cls ≠ "java/lang/invoke/VarHandle" ∧ (parseMethodDescriptor yX0_init.desc).map (fun d => d.parameters.length) = some 0 := by decide +kernel
theorem hi_X1_init : yX1_init.cls ≠ "java/lang/invoke/MethodHandle" ∧ yX1_init.cls ≠ "java/lang/invoke/VarHandle" ∧ (parseMethodDescriptor yX1_init.desc).map (fun d => d.parameters.length) = some 0 := by decide +kernel
theorem hi_X2_init : yX2_init.cls ≠ "java/lang/invoke/MethodHandle" ∧ yX2_init.cls ≠ "java/lang/invoke/VarHandle" ∧ (parseMethodDescriptor yX2_init.desc).map (fun d => d.parameters.length) = some 1 := by decide +kernel
theorem hi_X3_init : yX3_init.cls ≠ "java/lang/invoke/MethodHandle" ∧ yX3_init.cls ≠ "java/lang/invoke/VarHandle" ∧ (parseMethodDescriptor yX3_init.desc).map (fun d => d.parameters.length) = some 0 := by decide +kernel
theorem hi_X4_init : yX4_init.cls ≠ "java/lang/invoke/MethodHandle" ∧ yX4_init.cls ≠ "java/lang/invoke/VarHandle" ∧ (parseMethodDescriptor yX4_init.desc).map (fun d => d.parameters.length) = some 0 := by decide +kernel
theorem hi_X5_init : yX5_init.cls ≠ "java/lang/invoke/MethodHandle" ∧ yX5_init.cls ≠ "java/lang/invoke/VarHandle" ∧ (parseMethodDescriptor yX5_init.desc).map (fun d => d.parameters.length) = some 0 := by decide +kernel
theorem fill_all {gs : List Value} {v : Value} {n : Nat} (h : ∀ j, j < n → gs[j]? = some v) (hn : gs.length ≤ n) : gs = List.replicate gs.length v :=
  List.eq_replicate_iff.mpr ⟨rfl, fun w hw => by
    obtain ⟨j, hj, e⟩ := List.getElem_of_mem hw
    have := h j (by omega)
    rw [List.getElem?_eq_getElem hj, e] at this
    exact Option.some.inj this⟩
set_option maxRecDepth 100000 in
theorem fi_loop {mem : pM} {a N n0 : Nat} {v : Int32} (ha : a < mem.length) (hN : N < 1000) : ∀ (n s : Nat) (gs : List Value), s + n = gs.length → gs.length = N → (∀ j, j < s → gs[j]? = some (.int v)) → PW kJ7_fill_53178 false n0 (fun v9 m9 => v9 = none ∧ m9 = mem.set a (100, List.replicate N (.int v))) (fun _ _ => False) 5 [some (.ref a), some (.int v), some (.int (nI s)), some (.int (nI gs.length))] [] (mem.set a (100, gs)) 0 0 := by
  intro n
  induction n with
  | zero =>
    intro s gs hs hlen hv
    refine PW.iload_n (i := 2) dJ7_fill_53178_5 rfl rfl ?_
    refine PW.iload_n (i := 3) dJ7_fill_53178_6 rfl rfl ?_
    refine PW.icmp_ge (tgt := 20) dJ7_fill_53178_7 (by decide) (fun _ => ?_) (fun h7 => absurd (nI_le (a := gs.length) (b := s) (by omega) (by omega)) h7)
    exact PW.vret dJ7_fill_53178_20 rfl ⟨rfl, by rw [fill_all hv (by omega), hlen]⟩ (by decide) (by decide)
  | succ n ih =>
    intro s gs hs hlen hv
    refine PW.iload_n (i := 2) dJ7_fill_53178_5 rfl rfl ?_
    refine PW.iload_n (i := 3) dJ7_fill_53178_6 rfl rfl ?_
    refine PW.icmp_ge (tgt := 20) dJ7_fill_53178_7 (by decide) (fun h7 => absurd h7 (nI_ge (a := s) (b := gs.length) (by omega) (by omega))) (fun _ => ?_)
    refine PW.aload_n (i := 0) dJ7_fill_53178_10 rfl rfl ?_
    refine PW.iload_n (i := 2) dJ7_fill_53178_11 rfl rfl ?_
    refine PW.iload_n (i := 1) dJ7_fill_53178_12 rfl rfl ?_
    refine PW.iast dJ7_fill_53178_13 (List.getElem?_set_self ha) rfl (by omega) (by omega) (List.set_set ..) ?_
    refine PW.iinc (v := nI (s + 1)) dJ7_fill_53178_14 rfl (nI_1 s) (by decide) rfl ?_
    refine PW.goto (tgt := 5) dJ7_fill_53178_17 (by decide) ?_
    have hg9 : (gs.set s (.int v)).length = gs.length := List.length_set
    rw [← hg9]
    exact ih (s + 1) _ (by rw [hg9]; omega) (by rw [hg9]; exact hlen) (fun j hj => by
      by_cases e : j = s
      · subst e; exact List.getElem?_set_self (by omega)
      · rw [List.getElem?_set_ne (Ne.symm e)]; exact hv j (by omega))
theorem fill_same {mem : pM} {a : Nat} {c : pC} (h : mem[a]? = some c) : mem.set a c = mem := by
  apply List.ext_getElem?
  intro i
  by_cases e : i = a
  · subst e
    rw [List.getElem?_set_self (List.getElem?_eq_some_iff.mp h).1, h]
  · rw [List.getElem?_set_ne (Ne.symm e)]
set_option maxRecDepth 100000 in
theorem c_fill {mem : pM} {a N : Nat} {fs : List Value} (hm : mem[a]? = some (100, fs)) (hfs : fs.length = N) (hN : N < 1000) (v : Int32) (l9 : Launch) : pMet l9 yJ7_fill_53178 kJ7_fill_53178 false [.ref a, .int v] mem (fun v9 m9 => v9 = none ∧ m9 = mem.set a (100, List.replicate N (.int v))) (fun _ _ => False) := by
  refine pMet.of (by decide) rfl rfl rfl (by intro v hv; simp only [List.mem_cons, List.not_mem_nil, or_false] at hv; rcases hv with rfl | rfl <;> rfl) (Nat.le_of_ble_eq_true rfl) ?_
  show PW _ _ _ _ _ 0 [some (.ref a), some (.int v), none, none] [] mem 0 0
  refine PW.iconst (v := 0) dJ7_fill_53178_0 (by decide) ?_
  refine PW.istore_n (i := 2) dJ7_fill_53178_1 rfl (by decide) rfl ?_
  refine PW.aload_n (i := 0) dJ7_fill_53178_2 rfl rfl ?_
  refine PW.alen dJ7_fill_53178_3 hm (by decide) (fun _ => rfl) rfl ?_
  refine PW.istore_n (i := 3) dJ7_fill_53178_4 rfl (by decide) rfl ?_
  have ha := (List.getElem?_eq_some_iff.mp hm).1
  have key := fi_loop (mem := mem) (n0 := mem.length) (v := v) ha hN fs.length 0 fs (by omega) hfs (fun j hj => absurd hj (by omega))
  rw [fill_same hm] at key
  exact key
