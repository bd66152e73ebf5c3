theorem tsw_cases {x : Int32} (e1 : ¬ x = 1) (e2 : ¬ x = 2) (e3 : ¬ x = 3) (e7 : ¬ x = 7) : (x.toInt < 1 ∨ 7 < x.toInt) ∨ x = 4 ∨ x = 5 ∨ x = 6 := by
  have h : ∀ k : Int32, ¬ x = k → x.toInt ≠ k.toInt := fun k hk q => hk (Int32.toInt_inj.mp q)
  have a1 : x.toInt ≠ 1 := h 1 e1
  have a2 : x.toInt ≠ 2 := h 2 e2
  have a3 : x.toInt ≠ 3 := h 3 e3
  have a7 : x.toInt ≠ 7 := h 7 e7
  by_cases b4 : x = 4
  · exact Or.inr (Or.inl b4)
  by_cases b5 : x = 5
  · exact Or.inr (Or.inr (Or.inl b5))
  by_cases b6 : x = 6
  · exact Or.inr (Or.inr (Or.inr b6))
  have a4 : x.toInt ≠ 4 := h 4 b4
  have a5 : x.toInt ≠ 5 := h 5 b5
  have a6 : x.toInt ≠ 6 := h 6 b6
  left
  omega
theorem tsw_due {k : pK} {al : Bool} {n0 : Nat} {P : pP} {T : pT} {L : pL} {st : List Value} {mem : pM} {cells slots : Nat} (d : decode k.cc 4 = .ok (.tableswitch 70 1 7 #[44, 44, 52, 70, 70, 70, 61], 44)) (x : Int32) (e1 : ¬ x = 1) (e2 : ¬ x = 2) (e3 : ¬ x = 3) (e7 : ¬ x = 7) (kk : PW k al n0 P T 74 L st mem cells slots) : PW k al n0 P T 4 L (.int x :: st) mem cells slots := by
  rcases tsw_cases e1 e2 e3 e7 with h | rfl | rfl | rfl
  · exact PW.tableOut (tgt := 74) d h (by decide) kk
  · exact PW.tableIn (off := 70) (tgt := 74) d (by decide) (by decide) (by decide) (by decide) kk
  · exact PW.tableIn (off := 70) (tgt := 74) d (by decide) (by decide) (by decide) (by decide) kk
  · exact PW.tableIn (off := 70) (tgt := 74) d (by decide) (by decide) (by decide) (by decide) kk
def f_due (M : dM) (l : Nat) : Int32 := if M l 1 = 1 ∨ M l 1 = 2 then M l 2 + 100 else if M l 1 = 3 then M l 2 + 300 else if M l 1 = 7 then M l 2 + 600 else 2147483647
set_option maxRecDepth 100000 in
set_option maxHeartbeats 4000000 in
theorem c_due {M : dM} {R : pM} {l : Nat} (hl : l < 24) (l9 : Launch) : pMet l9 yX2_due kX2_due false [.ref (2 + l)] (SM M ++ R) (fun v m9 => v = some (.int (f_due M l)) ∧ m9 = SM (M) ++ R) (fun _ _ => False) := by
  refine pMet.of (by decide) rfl rfl rfl (by intro v hv; simp only [List.mem_cons, List.not_mem_nil, or_false] at hv; subst hv; rfl) (Nat.le_of_ble_eq_true rfl) ?_
  show PW _ _ _ _ _ 0 [some (.ref (2 + l))] [] (SM M ++ R) 0 0
  refine PW.aload_n (i := 0) dX2_due_0 rfl rfl ?_
  refine PW.getf FX2_due_9 dX2_due_1 (sm_line hl) rfl ?_
  by_cases e1 : M l 1 = 1
  · refine PW.tableIn (off := 44) (tgt := 48) dX2_due_4 (by rw [e1]; decide) (by rw [e1]; decide) (by rw [e1]; decide) (by decide) ?_
    refine PW.aload_n (i := 0) dX2_due_48 rfl rfl ?_
    refine PW.getf FX2_due_15 dX2_due_49 (sm_line hl) rfl ?_
    refine PW.bipush (v := 100) dX2_due_52 (by decide) ?_
    refine PW.iadd dX2_due_54 ?_
    exact PW.iret dX2_due_55 rfl ⟨by simp [f_due, e1], rfl⟩ (by decide) (by decide)
  by_cases e2 : M l 1 = 2
  · refine PW.tableIn (off := 44) (tgt := 48) dX2_due_4 (by rw [e2]; decide) (by rw [e2]; decide) (by rw [e2]; decide) (by decide) ?_
    refine PW.aload_n (i := 0) dX2_due_48 rfl rfl ?_
    refine PW.getf FX2_due_15 dX2_due_49 (sm_line hl) rfl ?_
    refine PW.bipush (v := 100) dX2_due_52 (by decide) ?_
    refine PW.iadd dX2_due_54 ?_
    exact PW.iret dX2_due_55 rfl ⟨by simp [f_due, e2], rfl⟩ (by decide) (by decide)
  by_cases e3 : M l 1 = 3
  · refine PW.tableIn (off := 52) (tgt := 56) dX2_due_4 (by rw [e3]; decide) (by rw [e3]; decide) (by rw [e3]; decide) (by decide) ?_
    refine PW.aload_n (i := 0) dX2_due_56 rfl rfl ?_
    refine PW.getf FX2_due_15 dX2_due_57 (sm_line hl) rfl ?_
    refine PW.sipush (v := 300) dX2_due_60 (by decide) ?_
    refine PW.iadd dX2_due_63 ?_
    exact PW.iret dX2_due_64 rfl ⟨by simp [f_due, e3], rfl⟩ (by decide) (by decide)
  by_cases e7 : M l 1 = 7
  · refine PW.tableIn (off := 61) (tgt := 65) dX2_due_4 (by rw [e7]; decide) (by rw [e7]; decide) (by rw [e7]; decide) (by decide) ?_
    refine PW.aload_n (i := 0) dX2_due_65 rfl rfl ?_
    refine PW.getf FX2_due_15 dX2_due_66 (sm_line hl) rfl ?_
    refine PW.sipush (v := 600) dX2_due_69 (by decide) ?_
    refine PW.iadd dX2_due_72 ?_
    exact PW.iret dX2_due_73 rfl ⟨by simp [f_due, e7], rfl⟩ (by decide) (by decide)
  refine tsw_due (k := kX2_due) dX2_due_4 (M l 1) e1 e2 e3 e7 ?_
  refine PW.ldc (v := 2147483647) dX2_due_74 (by decide +kernel) ?_
  exact PW.iret dX2_due_76 rfl ⟨by simp [f_due, e1, e2, e3, e7], rfl⟩ (by decide) (by decide)
def ff (p q : Nat → Int32) : Nat → Nat → Int32
  | 0, _ => -1
  | n + 1, s => if p s = -1 ∧ q s = -1 then nI s else ff p q n (s + 1)
def f_free (M : dM) (a b : Nat) : Int32 := ff (M (24 + a / 6)) (M (24 + b / 6)) 8 0
theorem ff_cases (p q : Nat → Int32) : ∀ n s, ff p q n s = -1 ∨ ∃ t, s ≤ t ∧ t < s + n ∧ ff p q n s = nI t ∧ p t = -1 ∧ q t = -1
  | 0, _ => Or.inl rfl
  | n + 1, s => by
    by_cases h : p s = -1 ∧ q s = -1
    · exact Or.inr ⟨s, Nat.le_refl _, by omega, by rw [ff, if_pos h], h.1, h.2⟩
    · rcases ff_cases p q n (s + 1) with e | ⟨t, h1, h2, h3, h4⟩
      · left; rw [ff, if_neg h]; exact e
      · right; exact ⟨t, by omega, by omega, by rw [ff, if_neg h]; exact h3, h4⟩
theorem f_free_cases (M : dM) (a b : Nat) : f_free M a b = -1 ∨ ∃ t, t < 8 ∧ f_free M a b = nI t := by
  rcases ff_cases (M (24 + a / 6)) (M (24 + b / 6)) 8 0 with h | ⟨t, -, h2, h3, -⟩
  · exact Or.inl h
  · exact Or.inr ⟨t, by omega, h3⟩
theorem nI_m1 (t : Nat) (h : t < 2 ^ 31) : ¬ nI t = -1 := fun q => nI_pos h (by rw [q]; decide)
set_option maxRecDepth 100000 in
theorem lf_loop {M : dM} {R : pM} {a b n0 : Nat} (ha : a < 24) (hb : b < 24) : ∀ (n s : Nat), s + n = 8 → ff (M (24 + a / 6)) (M (24 + b / 6)) n s = f_free M a b → PW kX3_lowestFree false n0 (fun v m9 => v = some (.int (f_free M a b)) ∧ m9 = SM M ++ R) (fun _ _ => False) 30 [some (.ref 26), some (.ref (2 + a)), some (.ref (2 + b)), some (.ref (28 + a / 6)), some (.ref (28 + b / 6)), some (.int (nI s))] [] (SM M ++ R) 0 0 := by
  intro n
  induction n with
  | zero =>
    intro s hs hr
    refine PW.iload dX3_lowestFree_30 rfl ?_
    refine PW.bipush (v := 8) dX3_lowestFree_32 (by decide) ?_
    refine PW.icmp_ge (tgt := 63) dX3_lowestFree_34 (by decide) (fun _ => ?_) (fun h34 => absurd (nI_le (a := 8) (b := s) (by omega) (by omega)) h34)
    refine PW.iconst (v := (-1)) dX3_lowestFree_63 (by decide) ?_
    exact PW.iret dX3_lowestFree_64 rfl ⟨by rw [← hr]; rfl, rfl⟩ (by decide) (by decide)
  | succ n ih =>
    intro s hs hr
    refine PW.iload dX3_lowestFree_30 rfl ?_
    refine PW.bipush (v := 8) dX3_lowestFree_32 (by decide) ?_
    refine PW.icmp_ge (tgt := 63) dX3_lowestFree_34 (by decide) (fun h34 => absurd h34 (nI_ge (a := s) (b := 8) (by omega) (by decide))) (fun _ => ?_)
    refine PW.aload_n (i := 3) dX3_lowestFree_37 rfl rfl ?_
    refine PW.iload dX3_lowestFree_38 rfl ?_
    refine PW.iald dX3_lowestFree_40 (sm_row (u6 ha)) rfl (by omega) (iaF_get (by omega)) ?_
    refine PW.iconst (v := (-1)) dX3_lowestFree_41 (by decide) ?_
    refine PW.icmp_ne (tgt := 57) dX3_lowestFree_42 (by decide) (fun h42 => ?_) (fun h42 => ?_)
    · refine PW.iinc (v := nI (s + 1)) dX3_lowestFree_57 rfl (nI_1 s) (by decide) rfl ?_
      refine PW.goto (tgt := 30) dX3_lowestFree_60 (by decide) ?_
      exact ih (s + 1) (by omega) (by rw [← hr, ff, if_neg (by simp [h42])])
    · refine PW.aload dX3_lowestFree_45 rfl ?_
      refine PW.iload dX3_lowestFree_47 rfl ?_
      refine PW.iald dX3_lowestFree_49 (sm_row (u6 hb)) rfl (by omega) (iaF_get (by omega)) ?_
      refine PW.iconst (v := (-1)) dX3_lowestFree_50 (by decide) ?_
      refine PW.icmp_ne (tgt := 57) dX3_lowestFree_51 (by decide) (fun h51 => ?_) (fun h51 => ?_)
      · refine PW.iinc (v := nI (s + 1)) dX3_lowestFree_57 rfl (nI_1 s) (by decide) rfl ?_
        refine PW.goto (tgt := 30) dX3_lowestFree_60 (by decide) ?_
        exact ih (s + 1) (by omega) (by rw [← hr, ff, if_neg (by simp [h42, h51])])
      · refine PW.iload dX3_lowestFree_54 rfl ?_
        exact PW.iret dX3_lowestFree_56 rfl ⟨by rw [← hr, ff, if_pos ⟨h42, h51⟩], rfl⟩ (by decide) (by decide)
set_option maxRecDepth 100000 in
set_option maxHeartbeats 4000000 in
theorem c_lowestFree {M : dM} {R : pM} {a b : Nat} (ha : a < 24) (hb : b < 24) (l9 : Launch) : pMet l9 yX3_lowestFree kX3_lowestFree false [.ref 26, .ref (2 + a), .ref (2 + b)] (SM M ++ R) (fun v m9 => v = some (.int (f_free M a b)) ∧ m9 = SM (M) ++ R) (fun _ _ => False) := by
  refine pMet.of (by decide) rfl rfl rfl (by intro v hv; simp only [List.mem_cons, List.not_mem_nil, or_false] at hv; rcases hv with rfl | rfl | rfl <;> rfl) (Nat.le_of_ble_eq_true rfl) ?_
  show PW _ _ _ _ _ 0 [some (.ref 26), some (.ref (2 + a)), some (.ref (2 + b)), none, none, none] [] (SM M ++ R) 0 0
  refine PW.aload_n (i := 0) dX3_lowestFree_0 rfl rfl ?_
  refine PW.getf FX3_lowestFree_11 dX3_lowestFree_1 sm_sw rfl ?_
  refine PW.aload_n (i := 1) dX3_lowestFree_4 rfl rfl ?_
  refine PW.getf FX3_lowestFree_22 dX3_lowestFree_5 (sm_line ha) rfl ?_
  refine PW.bipush (v := 6) dX3_lowestFree_8 (by decide) ?_
  refine PW.idiv dX3_lowestFree_10 (by decide) ?_
  refine PW.aald dX3_lowestFree_11 sm_car (by decide) (fun _ => rfl) rfl (div6 ha) (Nat.lt_trans (u6 ha) (by decide)) (car_get _ (u6 ha)) ?_
  refine PW.astore_n (i := 3) dX3_lowestFree_12 rfl (by decide) rfl ?_
  refine PW.aload_n (i := 0) dX3_lowestFree_13 rfl rfl ?_
  refine PW.getf FX3_lowestFree_11 dX3_lowestFree_14 sm_sw rfl ?_
  refine PW.aload_n (i := 2) dX3_lowestFree_17 rfl rfl ?_
  refine PW.getf FX3_lowestFree_22 dX3_lowestFree_18 (sm_line hb) rfl ?_
  refine PW.bipush (v := 6) dX3_lowestFree_21 (by decide) ?_
  refine PW.idiv dX3_lowestFree_23 (by decide) ?_
  refine PW.aald dX3_lowestFree_24 sm_car (by decide) (fun _ => rfl) rfl (div6 hb) (Nat.lt_trans (u6 hb) (by decide)) (car_get _ (u6 hb)) ?_
  refine PW.astore dX3_lowestFree_25 (by decide) rfl ?_
  refine PW.iconst (v := 0) dX3_lowestFree_27 (by decide) ?_
  refine PW.istore dX3_lowestFree_28 (by decide) rfl ?_
  exact lf_loop ha hb 8 0 rfl rfl
def f_mark (M : dM) (a b t : Nat) (w : Int32) : dM := up2 (up2 M (24 + a / 6) t w) (24 + b / 6) t w
set_option maxRecDepth 100000 in
set_option maxHeartbeats 4000000 in
theorem c_mark {M : dM} {R : pM} {a b t : Nat} (ha : a < 24) (hb : b < 24) (ht : t < 8) (w : Int32) (l9 : Launch) : pMet l9 yX3_mark kX3_mark false [.ref 26, .ref (2 + a), .ref (2 + b), .int (nI t), .int w] (SM M ++ R) (fun v m9 => v = none ∧ m9 = SM (f_mark M a b t w) ++ R) (fun _ _ => False) := by
  refine pMet.of (by decide) rfl rfl rfl (by intro v hv; simp only [List.mem_cons, List.not_mem_nil, or_false] at hv; rcases hv with rfl | rfl | rfl | rfl | rfl <;> rfl) (Nat.le_of_ble_eq_true rfl) ?_
  show PW _ _ _ _ _ 0 [some (.ref 26), some (.ref (2 + a)), some (.ref (2 + b)), some (.int (nI t)), some (.int w)] [] (SM M ++ R) 0 0
  refine PW.aload_n (i := 0) dX3_mark_0 rfl rfl ?_
  refine PW.getf FX3_mark_11 dX3_mark_1 sm_sw rfl ?_
  refine PW.aload_n (i := 1) dX3_mark_4 rfl rfl ?_
  refine PW.getf FX3_mark_22 dX3_mark_5 (sm_line ha) rfl ?_
  refine PW.bipush (v := 6) dX3_mark_8 (by decide) ?_
  refine PW.idiv dX3_mark_10 (by decide) ?_
  refine PW.aald dX3_mark_11 sm_car (by decide) (fun _ => rfl) rfl (div6 ha) (Nat.lt_trans (u6 ha) (by decide)) (car_get _ (u6 ha)) ?_
  refine PW.iload_n (i := 3) dX3_mark_12 rfl rfl ?_
  refine PW.iload dX3_mark_13 rfl ?_
  refine PW.iast dX3_mark_15 (sm_row (u6 ha)) rfl (by omega) (by rw [iaF_len]; exact ht) (pu_row (u6 ha)) ?_
  refine PW.aload_n (i := 0) dX3_mark_16 rfl rfl ?_
  refine PW.getf FX3_mark_11 dX3_mark_17 sm_sw rfl ?_
  refine PW.aload_n (i := 2) dX3_mark_20 rfl rfl ?_
  refine PW.getf FX3_mark_22 dX3_mark_21 (sm_line hb) rfl ?_
  refine PW.bipush (v := 6) dX3_mark_24 (by decide) ?_
  refine PW.idiv dX3_mark_26 (by decide) ?_
  refine PW.aald dX3_mark_27 sm_car (by decide) (fun _ => rfl) rfl (div6 hb) (Nat.lt_trans (u6 hb) (by decide)) (car_get _ (u6 hb)) ?_
  refine PW.iload_n (i := 3) dX3_mark_28 rfl rfl ?_
  refine PW.iload dX3_mark_29 rfl ?_
  refine PW.iast dX3_mark_31 (sm_row (u6 hb)) rfl (by omega) (by rw [iaF_len]; exact ht) (pu_row (u6 hb)) ?_
  exact PW.vret dX3_mark_32 rfl ⟨rfl, rfl⟩ (by decide) (by decide)
set_option maxRecDepth 100000 in
set_option maxHeartbeats 4000000 in
theorem c_release {M : dM} {R : pM} {a b t : Nat} (ha : a < 24) (hb : b < 24) (ht : t < 8) (l9 : Launch) : pMet l9 yX3_release kX3_release false [.ref 26, .ref (2 + a), .ref (2 + b), .int (nI t)] (SM M ++ R) (fun v m9 => v = none ∧ m9 = SM (f_mark M a b t (-1)) ++ R) (fun _ _ => False) := by
  refine pMet.of (by decide) rfl rfl rfl (by intro v hv; simp only [List.mem_cons, List.not_mem_nil, or_false] at hv; rcases hv with rfl | rfl | rfl | rfl <;> rfl) (Nat.le_of_ble_eq_true rfl) ?_
  show PW _ _ _ _ _ 0 [some (.ref 26), some (.ref (2 + a)), some (.ref (2 + b)), some (.int (nI t))] [] (SM M ++ R) 0 0
  refine PW.aload_n (i := 0) dX3_release_0 rfl rfl ?_
  refine PW.aload_n (i := 1) dX3_release_1 rfl rfl ?_
  refine PW.aload_n (i := 2) dX3_release_2 rfl rfl ?_
  refine PW.iload_n (i := 3) dX3_release_3 rfl rfl ?_
  refine PW.iconst (v := (-1)) dX3_release_4 (by decide) ?_
  refine PW.callV (k := kX3_release) (n := 4) (c_mark ha hb ht _) dX3_release_5 gX3_release_X3_mark rfl hd_X3_mark rfl ⟨by decide, by decide⟩ ⟨rfl, rfl⟩ (Nat.le_of_ble_eq_true rfl) ⟨by decide, by decide⟩ sm_sw (by decide) rfl rfl (fun v m9 hp => ?_) (fun _ _ hx => hx.elim)
  obtain ⟨rfl, rfl⟩ := hp
  exact PW.vret dX3_release_8 rfl ⟨rfl, rfl⟩ (by decide) (by decide)
def mnI (a b : Nat) : Int32 := if nI b < nI a then nI b else nI a
def f_take (M : dM) (a b : Nat) : dM := if f_free M a b = -1 then M else f_mark M a b (f_free M a b).toNatClampNeg (mnI a b)
set_option maxRecDepth 100000 in
set_option maxHeartbeats 4000000 in
theorem c_take {M : dM} {R : pM} {a b : Nat} (ha : a < 24) (hb : b < 24) (l9 : Launch) : pMet l9 yX3_take kX3_take false [.ref 26, .ref (2 + a), .ref (2 + b)] (SM M ++ R) (fun v m9 => v = some (.int (f_free M a b)) ∧ m9 = SM (f_take M a b) ++ R) (fun _ _ => False) := by
  refine pMet.of (by decide) rfl rfl rfl (by intro v hv; simp only [List.mem_cons, List.not_mem_nil, or_false] at hv; rcases hv with rfl | rfl | rfl <;> rfl) (Nat.le_of_ble_eq_true rfl) ?_
  show PW _ _ _ _ _ 0 [some (.ref 26), some (.ref (2 + a)), some (.ref (2 + b)), none] [] (SM M ++ R) 0 0
  refine PW.aload_n (i := 0) dX3_take_0 rfl rfl ?_
  refine PW.aload_n (i := 1) dX3_take_1 rfl rfl ?_
  refine PW.aload_n (i := 2) dX3_take_2 rfl rfl ?_
  refine PW.callV (k := kX3_take) (n := 2) (c_lowestFree ha hb) dX3_take_3 gX3_take_X3_lowestFree rfl hd_X3_lowestFree rfl ⟨by decide, by decide⟩ ⟨rfl, rfl⟩ (Nat.le_of_ble_eq_true rfl) ⟨by decide, by decide⟩ sm_sw (by decide) rfl rfl (fun v m9 hp => ?_) (fun _ _ hx => hx.elim)
  obtain ⟨rfl, rfl⟩ := hp
  refine PW.istore_n (i := 3) dX3_take_6 rfl (by decide) rfl ?_
  refine PW.iload_n (i := 3) dX3_take_7 rfl rfl ?_
  refine PW.iconst (v := (-1)) dX3_take_8 (by decide) ?_
  refine PW.icmp_eq (tgt := 30) dX3_take_9 (by decide) (fun h9 => ?_) (fun h9 => ?_)
  · refine PW.iload_n (i := 3) dX3_take_30 rfl rfl ?_
    first | exact PW.iret dX3_take_31 rfl ⟨rfl, by rw [f_take, if_pos h9]⟩ (by decide) (by decide) | exact PW.iret dX3_take_31 rfl ⟨rfl, by rw [f_take, if_neg h9, et, nI_clamp (by omega)]; rfl⟩ (by decide) (by decide)
  · obtain ⟨t, ht, et⟩ : ∃ t, t < 8 ∧ f_free M a b = nI t := (f_free_cases M a b).resolve_left h9
    rw [et]
    refine PW.aload_n (i := 0) dX3_take_12 rfl rfl ?_
    refine PW.aload_n (i := 1) dX3_take_13 rfl rfl ?_
    refine PW.aload_n (i := 2) dX3_take_14 rfl rfl ?_
    refine PW.iload_n (i := 3) dX3_take_15 rfl rfl ?_
    refine PW.aload_n (i := 1) dX3_take_16 rfl rfl ?_
    refine PW.getf FX3_take_22 dX3_take_17 (sm_line ha) rfl ?_
    refine PW.aload_n (i := 2) dX3_take_20 rfl rfl ?_
    refine PW.getf FX3_take_22 dX3_take_21 (sm_line hb) rfl ?_
    refine PW.mmin dX3_take_24 (by decide +kernel) (by decide +kernel) (by decide +kernel) (by decide +kernel) (by decide) (Nat.le_of_ble_eq_true rfl) (by decide) (by decide) ?_
    refine PW.callV (k := kX3_take) (n := 4) (c_mark ha hb ht _) dX3_take_27 gX3_take_X3_mark rfl hd_X3_mark rfl ⟨by decide, by decide⟩ ⟨rfl, rfl⟩ (Nat.le_of_ble_eq_true rfl) ⟨by decide, by decide⟩ sm_sw (by decide) rfl rfl (fun v m9 hp => ?_) (fun _ _ hx => hx.elim)
    obtain ⟨rfl, rfl⟩ := hp
    refine PW.iload_n (i := 3) dX3_take_30 rfl rfl ?_
    first | exact PW.iret dX3_take_31 rfl ⟨rfl, by rw [f_take, if_pos h9]⟩ (by decide) (by decide) | exact PW.iret dX3_take_31 rfl ⟨rfl, by rw [f_take, if_neg h9, et, nI_clamp (by omega)]; rfl⟩ (by decide) (by decide)
