/-! THE START: what the tables say there -/
theorem wt_0 : Cond.instantiable RX0 2 ∈ lw_tbl := by decide +kernel
theorem wt_1 : Cond.instantiable RX1 4 ∈ lw_tbl := by decide +kernel
theorem wt_2 : Cond.instantiable RX2 11 ∈ lw_tbl := by decide +kernel
theorem wt_3 : Cond.instantiable RX3 1 ∈ lw_tbl := by decide +kernel
theorem wt_4 : Cond.instantiable RX4 7 ∈ lw_tbl := by decide +kernel
theorem wt_5 : Cond.instantiable RX5 25 ∈ lw_tbl := by decide +kernel
theorem lw_kn {args : Array Value} {s : State} (hts : ∀ w ∈ lw_tbl, w.before args s = true) : ∃ D : va_G, ∀ (c : Nat) (q : vw_C), vwCl[c]? = some q → u_Kn s q.1 q.2.1 q.2.2 (D.1 c) (D.2 c) := by
  obtain ⟨c0, i0, h0⟩ := u_known (C := RX0) (T := TX0) (N := 2) (n := 2) hts inL_X0 (hts _ wt_0)
  obtain ⟨c1, i1, h1⟩ := u_known (C := RX1) (T := TX1) (N := 4) (n := 4) hts inL_X1 (hts _ wt_1)
  obtain ⟨c2, i2, h2⟩ := u_known (C := RX2) (T := TX2) (N := 11) (n := 11) hts inL_X2 (hts _ wt_2)
  obtain ⟨c3, i3, h3⟩ := u_known (C := RX3) (T := TX3) (N := 1) (n := 1) hts inL_X3 (hts _ wt_3)
  obtain ⟨c4, i4, h4⟩ := u_known (C := RX4) (T := TX4) (N := 7) (n := 7) hts inL_X4 (hts _ wt_4)
  obtain ⟨c5, i5, h5⟩ := u_known (C := RX5) (T := TX5) (N := 25) (n := 25) hts inL_X5 (hts _ wt_5)
  refine ⟨(fun c => match c with | 0 => c0 | 1 => c1 | 2 => c2 | 3 => c3 | 4 => c4 | _ => c5, fun c => match c with | 0 => i0 | 1 => i1 | 2 => i2 | 3 => i3 | 4 => i4 | _ => i5), fun c q hq => ?_⟩
  match c, hq with
  | 0, hq =>
    obtain rfl : (RX0, TX0, 2) = q := Option.some.inj hq
    exact h0
  | 1, hq =>
    obtain rfl : (RX1, TX1, 4) = q := Option.some.inj hq
    exact h1
  | 2, hq =>
    obtain rfl : (RX2, TX2, 11) = q := Option.some.inj hq
    exact h2
  | 3, hq =>
    obtain rfl : (RX3, TX3, 1) = q := Option.some.inj hq
    exact h3
  | 4, hq =>
    obtain rfl : (RX4, TX4, 7) = q := Option.some.inj hq
    exact h4
  | 5, hq =>
    obtain rfl : (RX5, TX5, 25) = q := Option.some.inj hq
    exact h5
  | c + 6, hq => exact absurd (show (none : Option vw_C) = some q from hq) (by simp)
theorem wa_0 : Cond.arrayClass .int ∈ lw_tbl := by decide +kernel
theorem wa_1 : Cond.arrayClass .long ∈ lw_tbl := by decide +kernel
theorem wa_2 : Cond.arrayClass .boolean ∈ lw_tbl := by decide +kernel
theorem wa_3 : Cond.arrayOver (.object RX2) ∈ lw_tbl := by decide +kernel
theorem wa_4 : Cond.arrayOver (.object RX1) ∈ lw_tbl := by decide +kernel
theorem wa_5 : Cond.arrayOver (.array .int) ∈ lw_tbl := by decide +kernel
theorem lw_ar {args : Array Value} {s : State} (hts : ∀ w ∈ lw_tbl, w.before args s = true) : ∃ cA : Nat → ClassId, ∀ (k : Nat) (q : ClassId × FieldType), (ptys cA)[k]? = some q → ArrOfT s q.1 q.2 ∧ va_RA s q.1 q.2 := by
  obtain ⟨c0, k0, p0, f0, g0, e0⟩ := Cond.arrayClass_spec (hts _ wa_0)
  obtain ⟨c1, k1, p1, f1, g1, e1⟩ := Cond.arrayClass_spec (hts _ wa_1)
  obtain ⟨c2, k2, p2, f2, g2, e2⟩ := Cond.arrayClass_spec (hts _ wa_2)
  obtain ⟨p3, c3, k3, f3, -, g3, e3, r3⟩ := Cond.arrayOver_spec (hts _ wa_3)
  obtain ⟨p4, c4, k4, f4, -, g4, e4, r4⟩ := Cond.arrayOver_spec (hts _ wa_4)
  obtain ⟨c5, p5, k5, f5, g5, e5, r5⟩ := vy_over (U := s) (hts _ wa_5)
  refine ⟨fun c => match c with | 0 => c0 | 1 => c1 | 2 => c2 | 3 => c3 | 4 => c4 | _ => c5, fun k q hq => ?_⟩
  match k, hq with
  | 0, hq =>
    obtain rfl : (c0, FieldType.int) = q := Option.some.inj hq
    exact ⟨fun n z => ⟨(fun k h => by cases h), k0, g0, p0, e0⟩, f0⟩
  | 1, hq =>
    obtain rfl : (c1, FieldType.long) = q := Option.some.inj hq
    exact ⟨fun n z => ⟨(fun k h => by cases h), k1, g1, p1, e1⟩, f1⟩
  | 2, hq =>
    obtain rfl : (c2, FieldType.boolean) = q := Option.some.inj hq
    exact ⟨fun n z => ⟨(fun k h => by cases h), k2, g2, p2, e2⟩, f2⟩
  | 3, hq =>
    obtain rfl : (c3, FieldType.object RX2) = q := Option.some.inj hq
    exact ⟨fun n z => ⟨(fun k h => by cases h), k3, g3, p3, e3⟩, k3, p3, g3, e3, f3, r3⟩
  | 4, hq =>
    obtain rfl : (c4, FieldType.object RX1) = q := Option.some.inj hq
    exact ⟨fun n z => ⟨(fun k h => by cases h), k4, g4, p4, e4⟩, k4, p4, g4, e4, f4, r4⟩
  | 5, hq =>
    obtain rfl : (c5, FieldType.array .int) = q := Option.some.inj hq
    exact ⟨fun n z => ⟨(fun k h => by cases h), k5, g5, p5, e5⟩, r5⟩
  | c + 6, hq => exact absurd (show (none : Option (ClassId × FieldType)) = some q from hq) (by simp)
theorem lw_tx1 {args : Array Value} {s : State} {k : Nat} {tx : String} (h1 : (Cond.stringRef RX4 k tx).before args s = true) (h2 : (Cond.exactly (Term.string RX4 k) "java/lang/String").before args s = true) : ∃ a : Nat, vk_R RX4 k tx a s := by
  obtain ⟨a, -, -, -, hb, -⟩ := Cond.exactly_spec (args := args) (first := s) (o := none) (s := s) (idx := []) h2
  exact ⟨a, vk_R.of h1 hb⟩
theorem wx_59 : Cond.stringRef RX4 59 "the line is off the hook" ∈ lw_tbl := by decide +kernel
theorem wx_82 : Cond.stringRef RX4 82 "the line is on the hook" ∈ lw_tbl := by decide +kernel
theorem wx_104 : Cond.stringRef RX4 104 "the line can not camp" ∈ lw_tbl := by decide +kernel
theorem wx_109 : Cond.stringRef RX4 109 "the line does not talk, or the place is not free" ∈ lw_tbl := by decide +kernel
theorem wx_118 : Cond.stringRef RX4 118 "the line does not talk" ∈ lw_tbl := by decide +kernel
theorem wx_149 : Cond.stringRef RX4 149 "the group is full" ∈ lw_tbl := by decide +kernel
theorem wx_162 : Cond.stringRef RX4 162 "the slot is in use" ∈ lw_tbl := by decide +kernel
theorem wx_199 : Cond.stringRef RX4 199 "no such entry is kept" ∈ lw_tbl := by decide +kernel
theorem wx_207 : Cond.stringRef RX4 207 "an argument is not in its range" ∈ lw_tbl := by decide +kernel
set_option maxRecDepth 20000 in
set_option maxHeartbeats 4000000 in
theorem lw_tx {args : Array Value} {s : State} (hts : ∀ w ∈ lw_tbl, w.before args s = true) (hgv : (Jvm.Cond.and given_1 narrow_1).before args s = true) : ∀ q ∈ pTx, ∃ a : Nat, vk_R RX4 q.1 q.2 a s := by
  have hs := flat_of_before _ hgv
  intro q hq
  simp only [pTx, List.mem_cons, List.not_mem_nil, or_false] at hq
  rcases hq with rfl | rfl | rfl | rfl | rfl | rfl | rfl | rfl | rfl
  · exact lw_tx1 (hts _ wx_59) (hs _ (by decide +kernel))
  · exact lw_tx1 (hts _ wx_82) (hs _ (by decide +kernel))
  · exact lw_tx1 (hts _ wx_104) (hs _ (by decide +kernel))
  · exact lw_tx1 (hts _ wx_109) (hs _ (by decide +kernel))
  · exact lw_tx1 (hts _ wx_118) (hs _ (by decide +kernel))
  · exact lw_tx1 (hts _ wx_149) (hs _ (by decide +kernel))
  · exact lw_tx1 (hts _ wx_162) (hs _ (by decide +kernel))
  · exact lw_tx1 (hts _ wx_199) (hs _ (by decide +kernel))
  · exact lw_tx1 (hts _ wx_207) (hs _ (by decide +kernel))
theorem wc_0 : Cond.castable "java/lang/IllegalArgumentException" "java/lang/IllegalArgumentException" ∈ lw_tbl := by decide +kernel
theorem wc_1 : Cond.castable "java/lang/IllegalStateException" "java/lang/IllegalStateException" ∈ lw_tbl := by decide +kernel
theorem wc_2 : Cond.castable "java/lang/IndexOutOfBoundsException" "java/lang/IndexOutOfBoundsException" ∈ lw_tbl := by decide +kernel
theorem wd_0 : Cond.declares ⟨"java/lang/RuntimeException", "<init>", "(Ljava/lang/String;)V"⟩ ∈ lw_tbl := by decide +kernel
theorem wd_1 : Cond.declares ⟨"java/lang/Exception", "<init>", "(Ljava/lang/String;)V"⟩ ∈ lw_tbl := by decide +kernel
theorem wd_2 : Cond.declares ⟨"java/lang/Throwable", "<init>", "(Ljava/lang/String;)V"⟩ ∈ lw_tbl := by decide +kernel
theorem wn_0 : Cond.methodLinkNest RX4 31 yX1_init RX4 ∈ lw_tbl := by decide +kernel
theorem wn_1 : Cond.methodLinkNest RX4 44 yX0_init RX4 ∈ lw_tbl := by decide +kernel
theorem wz_0 : Cond.laysStatic Bundle.tN "UNASSIGNED_STACK" Bundle.steD ∈ lw_tbl := by decide +kernel
theorem wz_1 : Cond.laysStatic Bundle.tN "SUPPRESSED_SENTINEL" Bundle.listD ∈ lw_tbl := by decide +kernel
theorem wz_2 : Cond.initialized Bundle.tN ∈ lw_tbl := by decide +kernel
theorem lw_pN {args : Array Value} {s : State} (hts : ∀ w ∈ lw_tbl, w.before args s = true) : pN s := ⟨va_AO.of (hts _ wa_3), va_AO.of (hts _ wa_4), hts _ wa_5, va_Nw.of rfl (hts _ wn_0), va_Nw.of rfl (hts _ wn_1)⟩
set_option maxRecDepth 20000 in
set_option maxHeartbeats 4000000 in
theorem lw_pV {args : Array Value} {s : State} {l : Launch} (hl : l.stackTraces = false) (hts : ∀ w ∈ lw_tbl, w.before args s = true) (hgv : (Jvm.Cond.and given_1 narrow_1).before args s = true) : ∃ (D : va_G) (cA : Nat → ClassId), pV l D cA s := by
  have hs := flat_of_before _ hgv
  obtain ⟨D, hD⟩ := lw_kn hts
  obtain ⟨cA, hA⟩ := lw_ar hts
  refine ⟨D, cA, hl, ⟨hD, hA⟩, fun X hX => ?_, lw_tx hts hgv, fun y hy => ?_, fun X hX => ?_⟩
  · simp only [pEx, List.mem_cons, List.not_mem_nil, or_false] at hX
    rcases hX with rfl | rfl | rfl
    · exact va_Nw.of rfl (hts _ wc_0)
    · exact va_Nw.of rfl (hts _ wc_1)
    · exact va_Nw.of rfl (hts _ wc_2)
  · simp only [pDc, List.mem_cons, List.not_mem_nil, or_false] at hy
    rcases hy with rfl | rfl | rfl
    · exact va_Nw.of rfl (hts _ wd_0)
    · exact va_Nw.of rfl (hts _ wd_1)
    · exact va_Nw.of rfl (hts _ wd_2)
  · simp only [pEy, List.mem_cons, List.not_mem_nil, or_false] at hX
    rcases hX with rfl | rfl
    · exact va_Nc.of (hs (Cond.not (Cond.castable "java/lang/IllegalStateException" "java/lang/IllegalArgumentException")) (by decide +kernel))
    · exact va_Nc.of (hs (Cond.not (Cond.castable "java/lang/IndexOutOfBoundsException" "java/lang/IllegalArgumentException")) (by decide +kernel))
set_option maxRecDepth 20000 in
set_option maxHeartbeats 4000000 in
theorem lw_pZ {args : Array Value} {s : State} (hts : ∀ w ∈ lw_tbl, w.before args s = true) (hgv : (Jvm.Cond.and given_1 narrow_1).before args s = true) : pZs (fun q => s.heap.size ≤ q) s s.heap := by
  have hs := flat_of_before _ hgv
  exact ⟨vx_Zqof (hts _ wz_0) (hts _ wz_2) (hs (Cond.isRef (Term.static Bundle.tN "UNASSIGNED_STACK" Bundle.steD)) (by decide +kernel)) (fun a h => Nat.not_le.mpr h), vx_Zqof (hts _ wz_1) (hts _ wz_2) (hs (Cond.isRef (Term.static Bundle.tN "SUPPRESSED_SENTINEL" Bundle.listD)) (by decide +kernel)) (fun a h => Nat.not_le.mpr h)⟩
