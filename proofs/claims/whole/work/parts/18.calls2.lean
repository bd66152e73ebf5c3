abbrev kX4_leave : pK := (RX4, cX4_leave, 2, wsX4_leave, { frames := 3, cells := 0, slots := 0, locals := 90 }, none, [], 0, 0, pNo)
theorem FX4_leave_64 : pF kX4_leave.Ts kX4_leave.own 64 2 1 := ⟨_, _, _, by decide, rfl, by decide, by decide +kernel, by decide +kernel⟩
theorem FX4_leave_32 : pF kX4_leave.Ts kX4_leave.own 32 4 3 := ⟨_, _, _, by decide, rfl, by decide, by decide +kernel, by decide +kernel⟩
theorem FX4_leave_106 : pF kX4_leave.Ts kX4_leave.own 106 2 3 := ⟨_, _, _, by decide, rfl, by decide, by decide +kernel, by decide +kernel⟩
theorem FX4_leave_11 : pF kX4_leave.Ts kX4_leave.own 11 4 0 := ⟨_, _, _, by decide, rfl, by decide, by decide +kernel, by decide +kernel⟩
theorem FX4_leave_101 : pF kX4_leave.Ts kX4_leave.own 101 2 10 := ⟨_, _, _, by decide, rfl, by decide, by decide +kernel, by decide +kernel⟩
theorem Sf.last {M : dM} {g q : Nat} (h : Sf M) (hg : g < 4) (hq : q < grN M g) : Sf (up2 M (28 + g) 3 (nI q)) := by
  obtain ⟨h1, h2, h3⟩ := h
  refine ⟨fun l hl => (h1 l hl).to (fun j => up2_r (by omega)), fun p hp => by rw [up2_r (by omega)]; exact h2 p hp, fun k hk => ?_⟩
  by_cases e : k = g
  · subst e
    obtain ⟨a1, a2, a3, a4, a5⟩ := h3 k hk
    have e1 : up2 M (28 + k) 3 (nI q) (28 + k) 1 = M (28 + k) 1 := up2_j (by decide)
    have e2 : ∀ i, up2 M (28 + k) 3 (nI q) (32 + k) i = M (32 + k) i := fun i => up2_r (by omega)
    have e3 : up2 M (28 + k) 3 (nI q) (28 + k) 3 + 1 = nI (q + 1) := by rw [up2_s]; exact nI_1 q
    unfold grOK grN grS mb at *
    rw [e3, nI_clamp (by omega)]
    simp only [e1, e2]
    exact ⟨a1, a2, a3, trivial, by omega⟩
  · exact (h3 k hk).to (fun j => up2_r (by omega)) (fun j => up2_r (by omega))
theorem Sf_ra {c g : Nat} (hc : c < 24) (hg : g < 4) : ∀ (n i : Nat) (M : dM) (r : Int32), i + n = grN M g → Sf M → Sf (raL c g n i M r).1
  | 0, _, _, _, _, h => h
  | n + 1, i, M, r, e, h => by
    have hm := ((h.2.2 g hg).2.2.1 i (by omega)).2
    rw [raL]
    split
    · split
      · exact Sf_ra hc hg n (i + 1) _ _ (by rw [grN_ring hc hm hg]; omega) (h.ring hc hm)
      · exact Sf_ra hc hg n (i + 1) _ _ (by rw [grN_ring hc hm hg]; omega) (h.ring hc hm)
    · exact Sf_ra hc hg n (i + 1) _ _ (by omega) h
theorem Sf.ringOne {M : dM} {c g : Nat} (h : Sf M) (hc : c < 24) (hg : g < 4) : Sf (f_ringOne M c g) := by
  unfold f_ringOne
  split
  · exact h
  · next hf =>
    obtain ⟨q, hq, eq, -⟩ := (f_at_cases M c g).resolve_left hf
    unfold f_ro1 f_rom
    rw [eq, nI_clamp (by have := (h.2.2 g hg).2.1; omega)]
    exact (h.last hg hq).ring hc ((h.2.2 g hg).2.2.1 q hq).2
def cgM (M : dM) (c g : Nat) : dM := if M (28 + g) 2 = 3 then (raL c g (grN M g) 0 M 0).1 else f_ringOne M c g
def cgA (M : dM) (c g : Nat) : Int32 := if M (28 + g) 2 = 3 then (raL c g (grN M g) 0 M 0).2 else f_ringOneA M c g
theorem Sf.cg {M : dM} {c g : Nat} (h : Sf M) (hc : c < 24) (hg : g < 4) : Sf (cgM M c g) := by
  unfold cgM
  split
  · exact Sf_ra hc hg _ 0 _ _ (by omega) h
  · exact h.ringOne hc hg
def f_callGroup (M : dM) (c g : Nat) : dM :=
  if cgA M c g = 0 then (if hwL (cgM M c g) c g (grN (cgM M c g) g) 0 = true then f_block (cgM M c g) c else f_enter (cgM M c g) c 5 (cgM M c g 39 5)) else f_enter (cgM M c g) c 3 (cgM M c g 39 5)
theorem Sf.callGroup {M : dM} {c g : Nat} (h : Sf M) (hc : c < 24) (hg : g < 4) : Sf (f_callGroup M c g) := by
  unfold f_callGroup
  split
  · split
    · exact (h.cg hc hg).block hc
    · exact (h.cg hc hg).enter hc (by decide) (by decide) (by decide) (by decide)
  · exact (h.cg hc hg).enter hc (by decide) (by decide) (by decide) (by decide)
set_option maxRecDepth 100000 in
set_option maxHeartbeats 4000000 in
theorem c_callGroup {M : dM} {R : pM} {c g : Nat} (hS : Sf M) (hc : c < 24) (hg : g < 4) (l9 : Launch) : pMet l9 yX4_callGroup kX4_callGroup false [.ref 0, .ref (2 + c), .ref (33 + 2 * g)] (SM M ++ R) (fun v m9 => v = none ∧ m9 = SM (f_callGroup M c g) ++ R) (fun _ _ => False) := by
  refine pMet.of (by decide) rfl rfl rfl (by intro v hv; simp only [List.mem_cons, List.not_mem_nil, or_false] at hv; rcases hv with rfl | rfl | rfl <;> rfl) (Nat.le_of_ble_eq_true rfl) ?_
  show PW _ _ _ _ _ 0 [some (.ref 0), some (.ref (2 + c)), some (.ref (33 + 2 * g)), none] [] (SM M ++ R) 0 0
  refine PW.aload_n (i := 2) dX4_callGroup_0 rfl rfl ?_
  refine PW.getf FX4_callGroup_237 dX4_callGroup_1 (sm_grp hg) rfl ?_
  refine PW.iconst (v := 3) dX4_callGroup_4 (by decide) ?_
  refine PW.icmp_ne (tgt := 17) dX4_callGroup_5 (by decide) (fun h5 => ?_) (fun h5 => ?_)
  · refine PW.aload_n (i := 0) dX4_callGroup_17 rfl rfl ?_
    refine PW.aload_n (i := 1) dX4_callGroup_18 rfl rfl ?_
    refine PW.aload_n (i := 2) dX4_callGroup_19 rfl rfl ?_
    refine PW.callV (k := kX4_callGroup) (n := 2) (c_ringOne hS hc hg) dX4_callGroup_20 gX4_callGroup_X4_ringOne rfl hd_X4_ringOne rfl ⟨by decide, by decide⟩ ⟨rfl, rfl⟩ (Nat.le_of_ble_eq_true rfl) ⟨by decide, by decide⟩ sm_desk (by decide) rfl rfl (fun v m9 hp => ?_) (fun _ _ hx => hx.elim)
    obtain ⟨rfl, rfl⟩ := hp
    first | rw [show f_ringOneA M c g = cgA M c g by rw [cgA, if_neg h5], show f_ringOne M c g = cgM M c g by rw [cgM, if_neg h5]] | skip
    refine PW.istore_n (i := 3) dX4_callGroup_23 rfl (by decide) rfl ?_
    refine PW.iload_n (i := 3) dX4_callGroup_24 rfl rfl ?_
    refine PW.if_eq (tgt := 40) dX4_callGroup_25 (by decide) (fun h25 => ?_) (fun h25 => ?_)
    · refine PW.aload_n (i := 0) dX4_callGroup_40 rfl rfl ?_
      refine PW.aload_n (i := 1) dX4_callGroup_41 rfl rfl ?_
      refine PW.aload_n (i := 2) dX4_callGroup_42 rfl rfl ?_
      refine PW.callV (k := kX4_callGroup) (n := 2) (c_hasWilling (hS.cg hc hg) hc hg) dX4_callGroup_43 gX4_callGroup_X4_hasWilling rfl hd_X4_hasWilling rfl ⟨by decide, by decide⟩ ⟨rfl, rfl⟩ (Nat.le_of_ble_eq_true rfl) ⟨by decide, by decide⟩ sm_desk (by decide) rfl rfl (fun v m9 hp => ?_) (fun _ _ hx => hx.elim)
      obtain ⟨rfl, rfl⟩ := hp
      refine PW.if_eq (tgt := 57) dX4_callGroup_46 (by decide) (fun h46 => ?_) (fun h46 => ?_)
      · have h47 := b2i_z h46
        refine PW.aload_n (i := 1) dX4_callGroup_57 rfl rfl ?_
        refine PW.iconst (v := 5) dX4_callGroup_58 (by decide) ?_
        refine PW.aload_n (i := 0) dX4_callGroup_59 rfl rfl ?_
        refine PW.getf FX4_callGroup_75 dX4_callGroup_60 sm_desk rfl ?_
        refine PW.callV (k := kX4_callGroup) (n := 2) (c_enter hc _ _) dX4_callGroup_63 gX4_callGroup_X2_enter rfl hd_X2_enter rfl ⟨by decide, by decide⟩ ⟨rfl, rfl⟩ (Nat.le_of_ble_eq_true rfl) ⟨by decide, by decide⟩ (sm_line hc) (by decide) rfl rfl (fun v m9 hp => ?_) (fun _ _ hx => hx.elim)
        obtain ⟨rfl, rfl⟩ := hp
        exact PW.vret dX4_callGroup_66 rfl ⟨rfl, by simp [f_callGroup, h25, h47]⟩ (by decide) (by decide)
      · have h47 := b2i_t h46
        refine PW.aload_n (i := 0) dX4_callGroup_49 rfl rfl ?_
        refine PW.aload_n (i := 1) dX4_callGroup_50 rfl rfl ?_
        refine PW.callV (k := kX4_callGroup) (n := 1) (c_block hc) dX4_callGroup_51 gX4_callGroup_X4_block rfl hd_X4_block rfl ⟨by decide, by decide⟩ ⟨rfl, rfl⟩ (Nat.le_of_ble_eq_true rfl) ⟨by decide, by decide⟩ sm_desk (by decide) rfl rfl (fun v m9 hp => ?_) (fun _ _ hx => hx.elim)
        obtain ⟨rfl, rfl⟩ := hp
        refine PW.goto (tgt := 66) dX4_callGroup_54 (by decide) ?_
        exact PW.vret dX4_callGroup_66 rfl ⟨rfl, by simp [f_callGroup, h25, h47]⟩ (by decide) (by decide)
    · refine PW.aload_n (i := 1) dX4_callGroup_28 rfl rfl ?_
      refine PW.iconst (v := 3) dX4_callGroup_29 (by decide) ?_
      refine PW.aload_n (i := 0) dX4_callGroup_30 rfl rfl ?_
      refine PW.getf FX4_callGroup_75 dX4_callGroup_31 sm_desk rfl ?_
      refine PW.callV (k := kX4_callGroup) (n := 2) (c_enter hc _ _) dX4_callGroup_34 gX4_callGroup_X2_enter rfl hd_X2_enter rfl ⟨by decide, by decide⟩ ⟨rfl, rfl⟩ (Nat.le_of_ble_eq_true rfl) ⟨by decide, by decide⟩ (sm_line hc) (by decide) rfl rfl (fun v m9 hp => ?_) (fun _ _ hx => hx.elim)
      obtain ⟨rfl, rfl⟩ := hp
      refine PW.goto (tgt := 66) dX4_callGroup_37 (by decide) ?_
      exact PW.vret dX4_callGroup_66 rfl ⟨rfl, by simp [f_callGroup, h25]⟩ (by decide) (by decide)
  · refine PW.aload_n (i := 0) dX4_callGroup_8 rfl rfl ?_
    refine PW.aload_n (i := 1) dX4_callGroup_9 rfl rfl ?_
    refine PW.aload_n (i := 2) dX4_callGroup_10 rfl rfl ?_
    refine PW.callV (k := kX4_callGroup) (n := 2) (c_ringAll hS hc hg) dX4_callGroup_11 gX4_callGroup_X4_ringAll rfl hd_X4_ringAll rfl ⟨by decide, by decide⟩ ⟨rfl, rfl⟩ (Nat.le_of_ble_eq_true rfl) ⟨by decide, by decide⟩ sm_desk (by decide) rfl rfl (fun v m9 hp => ?_) (fun _ _ hx => hx.elim)
    obtain ⟨rfl, rfl⟩ := hp
    rw [show (raL c g (grN M g) 0 M 0).2 = cgA M c g by rw [cgA, if_pos h5], show (raL c g (grN M g) 0 M 0).1 = cgM M c g by rw [cgM, if_pos h5]]
    refine PW.goto (tgt := 23) dX4_callGroup_14 (by decide) ?_
    first | rw [show f_ringOneA M c g = cgA M c g by rw [cgA, if_neg h5], show f_ringOne M c g = cgM M c g by rw [cgM, if_neg h5]] | skip
    refine PW.istore_n (i := 3) dX4_callGroup_23 rfl (by decide) rfl ?_
    refine PW.iload_n (i := 3) dX4_callGroup_24 rfl rfl ?_
    refine PW.if_eq (tgt := 40) dX4_callGroup_25 (by decide) (fun h25 => ?_) (fun h25 => ?_)
    · refine PW.aload_n (i := 0) dX4_callGroup_40 rfl rfl ?_
      refine PW.aload_n (i := 1) dX4_callGroup_41 rfl rfl ?_
      refine PW.aload_n (i := 2) dX4_callGroup_42 rfl rfl ?_
      refine PW.callV (k := kX4_callGroup) (n := 2) (c_hasWilling (hS.cg hc hg) hc hg) dX4_callGroup_43 gX4_callGroup_X4_hasWilling rfl hd_X4_hasWilling rfl ⟨by decide, by decide⟩ ⟨rfl, rfl⟩ (Nat.le_of_ble_eq_true rfl) ⟨by decide, by decide⟩ sm_desk (by decide) rfl rfl (fun v m9 hp => ?_) (fun _ _ hx => hx.elim)
      obtain ⟨rfl, rfl⟩ := hp
      refine PW.if_eq (tgt := 57) dX4_callGroup_46 (by decide) (fun h46 => ?_) (fun h46 => ?_)
      · have h47 := b2i_z h46
        refine PW.aload_n (i := 1) dX4_callGroup_57 rfl rfl ?_
        refine PW.iconst (v := 5) dX4_callGroup_58 (by decide) ?_
        refine PW.aload_n (i := 0) dX4_callGroup_59 rfl rfl ?_
        refine PW.getf FX4_callGroup_75 dX4_callGroup_60 sm_desk rfl ?_
        refine PW.callV (k := kX4_callGroup) (n := 2) (c_enter hc _ _) dX4_callGroup_63 gX4_callGroup_X2_enter rfl hd_X2_enter rfl ⟨by decide, by decide⟩ ⟨rfl, rfl⟩ (Nat.le_of_ble_eq_true rfl) ⟨by decide, by decide⟩ (sm_line hc) (by decide) rfl rfl (fun v m9 hp => ?_) (fun _ _ hx => hx.elim)
        obtain ⟨rfl, rfl⟩ := hp
        exact PW.vret dX4_callGroup_66 rfl ⟨rfl, by simp [f_callGroup, h25, h47]⟩ (by decide) (by decide)
      · have h47 := b2i_t h46
        refine PW.aload_n (i := 0) dX4_callGroup_49 rfl rfl ?_
        refine PW.aload_n (i := 1) dX4_callGroup_50 rfl rfl ?_
        refine PW.callV (k := kX4_callGroup) (n := 1) (c_block hc) dX4_callGroup_51 gX4_callGroup_X4_block rfl hd_X4_block rfl ⟨by decide, by decide⟩ ⟨rfl, rfl⟩ (Nat.le_of_ble_eq_true rfl) ⟨by decide, by decide⟩ sm_desk (by decide) rfl rfl (fun v m9 hp => ?_) (fun _ _ hx => hx.elim)
        obtain ⟨rfl, rfl⟩ := hp
        refine PW.goto (tgt := 66) dX4_callGroup_54 (by decide) ?_
        exact PW.vret dX4_callGroup_66 rfl ⟨rfl, by simp [f_callGroup, h25, h47]⟩ (by decide) (by decide)
    · refine PW.aload_n (i := 1) dX4_callGroup_28 rfl rfl ?_
      refine PW.iconst (v := 3) dX4_callGroup_29 (by decide) ?_
      refine PW.aload_n (i := 0) dX4_callGroup_30 rfl rfl ?_
      refine PW.getf FX4_callGroup_75 dX4_callGroup_31 sm_desk rfl ?_
      refine PW.callV (k := kX4_callGroup) (n := 2) (c_enter hc _ _) dX4_callGroup_34 gX4_callGroup_X2_enter rfl hd_X2_enter rfl ⟨by decide, by decide⟩ ⟨rfl, rfl⟩ (Nat.le_of_ble_eq_true rfl) ⟨by decide, by decide⟩ (sm_line hc) (by decide) rfl rfl (fun v m9 hp => ?_) (fun _ _ hx => hx.elim)
      obtain ⟨rfl, rfl⟩ := hp
      refine PW.goto (tgt := 66) dX4_callGroup_37 (by decide) ?_
      exact PW.vret dX4_callGroup_66 rfl ⟨rfl, by simp [f_callGroup, h25]⟩ (by decide) (by decide)
def oth (M : dM) (l : Nat) : Nat := (M l 3).toNatClampNeg
def slt (M : dM) (l : Nat) : Nat := (M l 4).toNatClampNeg
def wr (M : dM) : Nat := (M 37 1).toNatClampNeg
def f_pick1 (M : dM) (o c : Nat) : dM := if f_free (f_stop M o) o c = -1 then f_block (f_enter (f_tnp (f_stop M o) o c) o 5 (f_tnp (f_stop M o) o c 39 5)) c else f_tnp (f_stop M o) o c
def f_pick (M : dM) (c : Nat) : dM := match f_fr M (c / 6) with
  | none => f_enter M c 5 (M 39 5)
  | some q => f_pick1 M (oth M q) c
theorem f_pick_n {M : dM} {c : Nat} (h : f_fr M (c / 6) = none) : f_pick M c = f_enter M c 5 (M 39 5) := by simp [f_pick, h]
theorem f_pick_s {M : dM} {c q : Nat} (h : f_fr M (c / 6) = some q) : f_pick M c = f_pick1 M (oth M q) c := by simp [f_pick, h]
theorem Sf.pick1 {M : dM} {o c : Nat} (h : Sf M) (ho : o < 24) (hc : c < 24) : Sf (f_pick1 M o c) := by
  unfold f_pick1
  split
  · exact (((h.stop ho).tnp ho hc).enter ho (by decide) (by decide) (by decide) (by decide)).block hc
  · exact (h.stop ho).tnp ho hc
theorem Sf.pick {M : dM} {c : Nat} (h : Sf M) (hc : c < 24) : Sf (f_pick M c) := by
  rcases frL_cases M 24 6 (c / 6 * 6) none 2147483647 (by omega) (Or.inl rfl) with hq | ⟨q, hq9, hq, hq4⟩
  · rw [f_pick_n hq]; exact h.enter hc (by decide) (by decide) (by decide) (by decide)
  · rw [f_pick_s hq]
    obtain ⟨o, t, ho, ht, e3, e4⟩ := (h.1 q hq9).1 (Or.inl hq4)
    unfold oth
    rw [e3, nI_clamp (by omega)]
    exact h.pick1 ho hc
set_option maxRecDepth 100000 in
set_option maxHeartbeats 4000000 in
theorem c_pickUp {M : dM} {R : pM} {c : Nat} (hS : Sf M) (hc : c < 24) (l9 : Launch) : pMet l9 yX4_pickUp kX4_pickUp false [.ref 0, .ref (2 + c)] (SM M ++ R) (fun v m9 => v = none ∧ m9 = SM (f_pick M c) ++ R) (fun _ _ => False) := by
  refine pMet.of (by decide) rfl rfl rfl (by intro v hv; simp only [List.mem_cons, List.not_mem_nil, or_false] at hv; rcases hv with rfl | rfl <;> rfl) (Nat.le_of_ble_eq_true rfl) ?_
  show PW _ _ _ _ _ 0 [some (.ref 0), some (.ref (2 + c)), none, none] [] (SM M ++ R) 0 0
  refine PW.aload_n (i := 0) dX4_pickUp_0 rfl rfl ?_
  refine PW.aload_n (i := 1) dX4_pickUp_1 rfl rfl ?_
  refine PW.getf FX4_pickUp_115 dX4_pickUp_2 (sm_line hc) rfl ?_
  refine PW.bipush (v := 6) dX4_pickUp_5 (by decide) ?_
  refine PW.idiv dX4_pickUp_7 (by decide) ?_
  rw [div6 hc]
  refine PW.callV (k := kX4_pickUp) (n := 1) (c_firstRinging (u6 hc)) dX4_pickUp_8 gX4_pickUp_X4_firstRinging rfl hd_X4_firstRinging rfl ⟨by decide, by decide⟩ ⟨rfl, rfl⟩ (Nat.le_of_ble_eq_true rfl) ⟨by decide, by decide⟩ sm_desk (by decide) rfl rfl (fun v m9 hp => ?_) (fun _ _ hx => hx.elim)
  obtain ⟨rfl, rfl⟩ := hp
  rcases frL_cases M 24 6 (c / 6 * 6) none 2147483647 (by omega) (Or.inl rfl) with hq | ⟨q, hq9, hq, hq4⟩
  · rw [show f_fr M (c / 6) = none from hq]
    refine PW.astore_nN (i := 2) dX4_pickUp_11 rfl (by decide) rfl ?_
    refine PW.aload_nN (i := 2) dX4_pickUp_12 rfl rfl ?_
    refine PW.ifnonnullN dX4_pickUp_13 ?_
    refine PW.aload_n (i := 1) dX4_pickUp_16 rfl rfl ?_
    refine PW.iconst (v := 5) dX4_pickUp_17 (by decide) ?_
    refine PW.aload_n (i := 0) dX4_pickUp_18 rfl rfl ?_
    refine PW.getf FX4_pickUp_75 dX4_pickUp_19 sm_desk rfl ?_
    refine PW.callV (k := kX4_pickUp) (n := 2) (c_enter hc _ _) dX4_pickUp_22 gX4_pickUp_X2_enter rfl hd_X2_enter rfl ⟨by decide, by decide⟩ ⟨rfl, rfl⟩ (Nat.le_of_ble_eq_true rfl) ⟨by decide, by decide⟩ (sm_line hc) (by decide) rfl rfl (fun v m9 hp => ?_) (fun _ _ hx => hx.elim)
    obtain ⟨rfl, rfl⟩ := hp
    exact PW.vret dX4_pickUp_25 rfl ⟨rfl, by rw [f_pick_n hq]⟩ (by decide) (by decide)
  · rw [show f_fr M (c / 6) = some q from hq]
    refine PW.astore_n (i := 2) dX4_pickUp_11 rfl (by decide) rfl ?_
    refine PW.aload_n (i := 2) dX4_pickUp_12 rfl rfl ?_
    refine PW.ifnonnull (tgt := 26) dX4_pickUp_13 (by decide) ?_
    obtain ⟨o, t, ho, ht, e3, e4⟩ := (hS.1 q hq9).1 (Or.inl hq4)
    refine PW.aload_n (i := 0) dX4_pickUp_26 rfl rfl ?_
    refine PW.getf FX4_pickUp_11 dX4_pickUp_27 sm_desk rfl ?_
    refine PW.aload_n (i := 2) dX4_pickUp_30 rfl rfl ?_
    refine PW.getf FX4_pickUp_106 dX4_pickUp_31 (sm_line hq9) rfl ?_
    refine PW.aald dX4_pickUp_34 sm_lines (by decide) (fun _ => rfl) rfl e3 (Nat.lt_trans ho (by decide)) (lnA_get ho) ?_
    refine PW.astore_n (i := 3) dX4_pickUp_35 rfl (by decide) rfl ?_
    refine PW.aload_n (i := 0) dX4_pickUp_36 rfl rfl ?_
    refine PW.aload_n (i := 3) dX4_pickUp_37 rfl rfl ?_
    refine PW.callV (k := kX4_pickUp) (n := 1) (c_stopRinging hS ho) dX4_pickUp_38 gX4_pickUp_X4_stopRinging rfl hd_X4_stopRinging rfl ⟨by decide, by decide⟩ ⟨rfl, rfl⟩ (Nat.le_of_ble_eq_true rfl) ⟨by decide, by decide⟩ sm_desk (by decide) rfl rfl (fun v m9 hp => ?_) (fun _ _ hx => hx.elim)
    obtain ⟨rfl, rfl⟩ := hp
    refine PW.aload_n (i := 0) dX4_pickUp_41 rfl rfl ?_
    refine PW.aload_n (i := 3) dX4_pickUp_42 rfl rfl ?_
    refine PW.aload_n (i := 1) dX4_pickUp_43 rfl rfl ?_
    refine PW.callV (k := kX4_pickUp) (n := 2) (c_talkByNewPath ho hc) dX4_pickUp_44 gX4_pickUp_X4_talkByNewPath rfl hd_X4_talkByNewPath rfl ⟨by decide, by decide⟩ ⟨rfl, rfl⟩ (Nat.le_of_ble_eq_true rfl) ⟨by decide, by decide⟩ sm_desk (by decide) rfl rfl (fun v m9 hp => ?_) (fun _ _ hx => hx.elim)
    obtain ⟨rfl, rfl⟩ := hp
    refine PW.if_ne (tgt := 64) dX4_pickUp_47 (by decide) (fun h47 => ?_) (fun h47 => ?_)
    · exact PW.vret dX4_pickUp_64 rfl ⟨rfl, by rw [f_pick_s hq, oth, e3, nI_clamp (by omega), f_pick1]; first | rw [if_neg (of_decide_eq_true (b2i_t h47))] | rw [if_pos h48]⟩ (by decide) (by decide)
    · have h48 : f_free (f_stop M o) o c = -1 := Decidable.of_not_not (of_decide_eq_false (b2i_z h47))
      refine PW.aload_n (i := 3) dX4_pickUp_50 rfl rfl ?_
      refine PW.iconst (v := 5) dX4_pickUp_51 (by decide) ?_
      refine PW.aload_n (i := 0) dX4_pickUp_52 rfl rfl ?_
      refine PW.getf FX4_pickUp_75 dX4_pickUp_53 sm_desk rfl ?_
      refine PW.callV (k := kX4_pickUp) (n := 2) (c_enter ho _ _) dX4_pickUp_56 gX4_pickUp_X2_enter rfl hd_X2_enter rfl ⟨by decide, by decide⟩ ⟨rfl, rfl⟩ (Nat.le_of_ble_eq_true rfl) ⟨by decide, by decide⟩ (sm_line ho) (by decide) rfl rfl (fun v m9 hp => ?_) (fun _ _ hx => hx.elim)
      obtain ⟨rfl, rfl⟩ := hp
      refine PW.aload_n (i := 0) dX4_pickUp_59 rfl rfl ?_
      refine PW.aload_n (i := 1) dX4_pickUp_60 rfl rfl ?_
      refine PW.callV (k := kX4_pickUp) (n := 1) (c_block hc) dX4_pickUp_61 gX4_pickUp_X4_block rfl hd_X4_block rfl ⟨by decide, by decide⟩ ⟨rfl, rfl⟩ (Nat.le_of_ble_eq_true rfl) ⟨by decide, by decide⟩ sm_desk (by decide) rfl rfl (fun v m9 hp => ?_) (fun _ _ hx => hx.elim)
      obtain ⟨rfl, rfl⟩ := hp
      exact PW.vret dX4_pickUp_64 rfl ⟨rfl, by rw [f_pick_s hq, oth, e3, nI_clamp (by omega), f_pick1]; first | rw [if_neg (of_decide_eq_true (b2i_t h47))] | rw [if_pos h48]⟩ (by decide) (by decide)
def f_unpark1 (M : dM) (x c p : Nat) : dM := if f_free M x c = -1 then f_block (f_tnp M x c) c else up2 (f_tnp M x c) 36 p (-1)
def f_unpark (M : dM) (c p : Nat) : dM := if M 36 p = -1 then f_enter M c 5 (M 39 5) else f_unpark1 M (M 36 p).toNatClampNeg c p
theorem Sf.plc {M : dM} {p : Nat} {x : Int32} (h : Sf M) (hx : x = -1 ∨ ∃ l, l < 24 ∧ x = nI l) : Sf (up2 M 36 p x) := by
  refine ⟨fun l hl => (h.1 l hl).to (fun j => up2_r (by omega)), fun q hq => ?_, fun g hg => (h.2.2 g hg).to (fun j => up2_r (by omega)) (fun j => up2_r (by omega))⟩
  by_cases e : q = p
  · subst e; rw [up2_s]; exact hx
  · rw [up2_j e]; exact h.2.1 q hq
theorem Sf.unpark {M : dM} {c p : Nat} (h : Sf M) (hc : c < 24) (hp : p < 4) : Sf (f_unpark M c p) := by
  unfold f_unpark
  split
  · exact h.enter hc (by decide) (by decide) (by decide) (by decide)
  · next hf =>
    obtain ⟨x, hx, ex⟩ := (h.2.1 p hp).resolve_left hf
    rw [ex, nI_clamp (by omega)]
    unfold f_unpark1
    split
    · exact (h.tnp hx hc).block hc
    · exact (h.tnp hx hc).plc (Or.inl rfl)
set_option maxRecDepth 100000 in
set_option maxHeartbeats 4000000 in
theorem c_takeParked {M : dM} {R : pM} {c p : Nat} (hS : Sf M) (hc : c < 24) (hp : p < 4) (l9 : Launch) : pMet l9 yX4_takeParked kX4_takeParked false [.ref 0, .ref (2 + c), .int (nI p)] (SM M ++ R) (fun v m9 => v = none ∧ m9 = SM (f_unpark M c p) ++ R) (fun _ _ => False) := by
  refine pMet.of (by decide) rfl rfl rfl (by intro v hv; simp only [List.mem_cons, List.not_mem_nil, or_false] at hv; rcases hv with rfl | rfl | rfl <;> rfl) (Nat.le_of_ble_eq_true rfl) ?_
  show PW _ _ _ _ _ 0 [some (.ref 0), some (.ref (2 + c)), some (.int (nI p)), none] [] (SM M ++ R) 0 0
  refine PW.aload_n (i := 0) dX4_takeParked_0 rfl rfl ?_
  refine PW.getf FX4_takeParked_32 dX4_takeParked_1 sm_desk rfl ?_
  refine PW.iload_n (i := 2) dX4_takeParked_4 rfl rfl ?_
  refine PW.iald dX4_takeParked_5 sm_plc rfl (by omega) (iaF_get hp) ?_
  refine PW.istore_n (i := 3) dX4_takeParked_6 rfl (by decide) rfl ?_
  refine PW.iload_n (i := 3) dX4_takeParked_7 rfl rfl ?_
  refine PW.iconst (v := (-1)) dX4_takeParked_8 (by decide) ?_
  refine PW.icmp_ne (tgt := 24) dX4_takeParked_9 (by decide) (fun h9 => ?_) (fun h9 => ?_)
  · obtain ⟨x, hx, ex⟩ := (hS.2.1 p hp).resolve_left h9
    refine PW.aload_n (i := 0) dX4_takeParked_24 rfl rfl ?_
    refine PW.aload_n (i := 0) dX4_takeParked_25 rfl rfl ?_
    refine PW.getf FX4_takeParked_11 dX4_takeParked_26 sm_desk rfl ?_
    refine PW.iload_n (i := 3) dX4_takeParked_29 rfl rfl ?_
    refine PW.aald dX4_takeParked_30 sm_lines (by decide) (fun _ => rfl) rfl ex (Nat.lt_trans hx (by decide)) (lnA_get hx) ?_
    refine PW.aload_n (i := 1) dX4_takeParked_31 rfl rfl ?_
    refine PW.callV (k := kX4_takeParked) (n := 2) (c_talkByNewPath hx hc) dX4_takeParked_32 gX4_takeParked_X4_talkByNewPath rfl hd_X4_talkByNewPath rfl ⟨by decide, by decide⟩ ⟨rfl, rfl⟩ (Nat.le_of_ble_eq_true rfl) ⟨by decide, by decide⟩ sm_desk (by decide) rfl rfl (fun v m9 hp => ?_) (fun _ _ hx => hx.elim)
    obtain ⟨rfl, rfl⟩ := hp
    refine PW.if_eq (tgt := 48) dX4_takeParked_35 (by decide) (fun h35 => ?_) (fun h35 => ?_)
    · have h48 : f_free M x c = -1 := Decidable.of_not_not (of_decide_eq_false (b2i_z h35))
      refine PW.aload_n (i := 0) dX4_takeParked_48 rfl rfl ?_
      refine PW.aload_n (i := 1) dX4_takeParked_49 rfl rfl ?_
      refine PW.callV (k := kX4_takeParked) (n := 1) (c_block hc) dX4_takeParked_50 gX4_takeParked_X4_block rfl hd_X4_block rfl ⟨by decide, by decide⟩ ⟨rfl, rfl⟩ (Nat.le_of_ble_eq_true rfl) ⟨by decide, by decide⟩ sm_desk (by decide) rfl rfl (fun v m9 hp => ?_) (fun _ _ hx => hx.elim)
      obtain ⟨rfl, rfl⟩ := hp
      exact PW.vret dX4_takeParked_53 rfl ⟨rfl, by rw [f_unpark, if_neg h9, ex, nI_clamp (by omega), f_unpark1]; first | rw [if_neg (of_decide_eq_true (b2i_t h35))] | rw [if_pos h48]⟩ (by decide) (by decide)
    · refine PW.aload_n (i := 0) dX4_takeParked_38 rfl rfl ?_
      refine PW.getf FX4_takeParked_32 dX4_takeParked_39 sm_desk rfl ?_
      refine PW.iload_n (i := 2) dX4_takeParked_42 rfl rfl ?_
      refine PW.iconst (v := (-1)) dX4_takeParked_43 (by decide) ?_
      refine PW.iast dX4_takeParked_44 sm_plc rfl (by omega) (by rw [iaF_len]; exact hp) pu_plc ?_
      refine PW.goto (tgt := 53) dX4_takeParked_45 (by decide) ?_
      exact PW.vret dX4_takeParked_53 rfl ⟨rfl, by rw [f_unpark, if_neg h9, ex, nI_clamp (by omega), f_unpark1]; first | rw [if_neg (of_decide_eq_true (b2i_t h35))] | rw [if_pos h48]⟩ (by decide) (by decide)
  · refine PW.aload_n (i := 1) dX4_takeParked_12 rfl rfl ?_
    refine PW.iconst (v := 5) dX4_takeParked_13 (by decide) ?_
    refine PW.aload_n (i := 0) dX4_takeParked_14 rfl rfl ?_
    refine PW.getf FX4_takeParked_75 dX4_takeParked_15 sm_desk rfl ?_
    refine PW.callV (k := kX4_takeParked) (n := 2) (c_enter hc _ _) dX4_takeParked_18 gX4_takeParked_X2_enter rfl hd_X2_enter rfl ⟨by decide, by decide⟩ ⟨rfl, rfl⟩ (Nat.le_of_ble_eq_true rfl) ⟨by decide, by decide⟩ (sm_line hc) (by decide) rfl rfl (fun v m9 hp => ?_) (fun _ _ hx => hx.elim)
    obtain ⟨rfl, rfl⟩ := hp
    refine PW.goto (tgt := 53) dX4_takeParked_21 (by decide) ?_
    exact PW.vret dX4_takeParked_53 rfl ⟨rfl, by rw [f_unpark, if_pos h9]⟩ (by decide) (by decide)
def f_end1 (M : dM) (l o t w k : Nat) : dM := f_mark (f_write (up2 M k 8 (M k 8 + f_units M k)) w (nI k) (up2 M k 8 (M k 8 + f_units M k) k 3) (up2 M k 8 (M k 8 + f_units M k) k 2) (f_units M k)) l o t (-1)
def f_end2 (M : dM) (l o t w k : Nat) : dM := f_enter (f_end1 M l o t w k) l 5 (f_end1 M l o t w k 39 5)
def f_end3 (M : dM) (l o t w k : Nat) : dM := f_enter (f_end2 M l o t w k) o 5 (f_end2 M l o t w k 39 5)
def payer (M : dM) (l : Nat) : Nat := if M l 7 = 0 then oth M l else l
def f_end (M : dM) (l : Nat) : dM := f_end3 M l (oth M l) (slt M l) (wr M) (payer M l)
theorem f_write_r {M : dM} {w r j : Nat} {c o b u : Int32} (h : r < 37 ∨ 38 < r) : f_write M w c o b u r j = M r j := by
  unfold f_write
  rw [up2_r (by omega), up2_r (by omega), up2_r (by omega), up2_r (by omega), up2_r (by omega)]
theorem Sf.write {M : dM} {w : Nat} {c o b u : Int32} (h : Sf M) : Sf (f_write M w c o b u) :=
  h.lines (fun r j h1 h2 => f_write_r (by omega)) (fun q hq => (h.1 q hq).to (fun j => f_write_r (by omega)))
theorem Sf.end3 {M : dM} {l o t w k : Nat} (h : Sf M) (hl : l < 24) (ho : o < 24) (hk : k < 24) : Sf (f_end3 M l o t w k) :=
  ((((h.flag hk (by omega)).write).mark hl ho).enter hl (by decide) (by decide) (by decide) (by decide)).enter ho (by decide) (by decide) (by decide) (by decide)
set_option maxRecDepth 100000 in
set_option maxHeartbeats 4000000 in
theorem c_endTalk {M : dM} {R : pM} {l o t : Nat} (hl : l < 24) (ho : o < 24) (ht : t < 8) (e3 : M l 3 = nI o) (e4 : M l 4 = nI t) (hw : M 37 1 = nI (wr M) ∧ wr M < 100000) (l9 : Launch) : pMet l9 yX4_endTalk kX4_endTalk false [.ref 0, .ref (2 + l)] (SM M ++ R) (fun v m9 => v = some (.ref (2 + o)) ∧ m9 = SM (f_end M l) ++ R) (fun _ _ => False) := by
  refine pMet.of (by decide) rfl rfl rfl (by intro v hv; simp only [List.mem_cons, List.not_mem_nil, or_false] at hv; rcases hv with rfl | rfl <;> rfl) (Nat.le_of_ble_eq_true rfl) ?_
  show PW _ _ _ _ _ 0 [some (.ref 0), some (.ref (2 + l)), none, none, none] [] (SM M ++ R) 0 0
  refine PW.aload_n (i := 0) dX4_endTalk_0 rfl rfl ?_
  refine PW.getf FX4_endTalk_11 dX4_endTalk_1 sm_desk rfl ?_
  refine PW.aload_n (i := 1) dX4_endTalk_4 rfl rfl ?_
  refine PW.getf FX4_endTalk_106 dX4_endTalk_5 (sm_line hl) rfl ?_
  refine PW.aald dX4_endTalk_8 sm_lines (by decide) (fun _ => rfl) rfl e3 (Nat.lt_trans ho (by decide)) (lnA_get ho) ?_
  refine PW.astore_n (i := 2) dX4_endTalk_9 rfl (by decide) rfl ?_
  refine PW.aload_n (i := 1) dX4_endTalk_10 rfl rfl ?_
  refine PW.getf FX4_endTalk_172 dX4_endTalk_11 (sm_line hl) rfl ?_
  refine PW.if_eq (tgt := 21) dX4_endTalk_14 (by decide) (fun h14 => ?_) (fun h14 => ?_)
  · refine PW.aload_n (i := 2) dX4_endTalk_21 rfl rfl ?_
    refine PW.astore_n (i := 3) dX4_endTalk_22 rfl (by decide) rfl ?_
    refine PW.aload_n (i := 0) dX4_endTalk_23 rfl rfl ?_
    refine PW.aload_n (i := 3) dX4_endTalk_24 rfl rfl ?_
    refine PW.callV (k := kX4_endTalk) (n := 1) (c_unitsOf ho) dX4_endTalk_25 gX4_endTalk_X4_unitsOf rfl hd_X4_unitsOf rfl ⟨by decide, by decide⟩ ⟨rfl, rfl⟩ (Nat.le_of_ble_eq_true rfl) ⟨by decide, by decide⟩ sm_desk (by decide) rfl rfl (fun v m9 hp => ?_) (fun _ _ hx => hx.elim)
    obtain ⟨rfl, rfl⟩ := hp
    refine PW.istore dX4_endTalk_28 (by decide) rfl ?_
    refine PW.aload_n (i := 3) dX4_endTalk_30 rfl rfl ?_
    refine PW.dup dX4_endTalk_31 rfl ?_
    refine PW.getf FX4_endTalk_176 dX4_endTalk_32 (sm_line ho) rfl ?_
    refine PW.iload dX4_endTalk_35 rfl ?_
    refine PW.iadd dX4_endTalk_37 ?_
    refine PW.putf FX4_endTalk_176 (Fw_2_8 _) dX4_endTalk_38 (sm_line ho) (Nat.le_of_ble_eq_true rfl) (fun _ => rfl) (fun _ => rfl) (pu_line ho (by decide) (by decide)) ?_
    refine PW.aload_n (i := 0) dX4_endTalk_41 rfl rfl ?_
    refine PW.getf FX4_endTalk_45 dX4_endTalk_42 sm_desk rfl ?_
    refine PW.aload_n (i := 3) dX4_endTalk_45 rfl rfl ?_
    refine PW.getf FX4_endTalk_115 dX4_endTalk_46 (sm_line ho) rfl ?_
    refine PW.aload_n (i := 3) dX4_endTalk_49 rfl rfl ?_
    refine PW.getf FX4_endTalk_106 dX4_endTalk_50 (sm_line ho) rfl ?_
    refine PW.aload_n (i := 3) dX4_endTalk_53 rfl rfl ?_
    refine PW.getf FX4_endTalk_270 dX4_endTalk_54 (sm_line ho) rfl ?_
    refine PW.iload dX4_endTalk_57 rfl ?_
    refine PW.callV (k := kX4_endTalk) (n := 4) (c_write hw.2 (by rw [up2_r (by omega)]; exact hw.1) _ _ _ _) dX4_endTalk_59 gX4_endTalk_X0_write rfl hd_X0_write rfl ⟨by decide, by decide⟩ ⟨rfl, rfl⟩ (Nat.le_of_ble_eq_true rfl) ⟨by decide, by decide⟩ sm_book (by decide) rfl rfl (fun v m9 hp => ?_) (fun _ _ hx => hx.elim)
    obtain ⟨rfl, rfl⟩ := hp
    refine PW.aload_n (i := 0) dX4_endTalk_62 rfl rfl ?_
    refine PW.getf FX4_endTalk_21 dX4_endTalk_63 sm_desk rfl ?_
    refine PW.aload_n (i := 1) dX4_endTalk_66 rfl rfl ?_
    refine PW.aload_n (i := 2) dX4_endTalk_67 rfl rfl ?_
    refine PW.aload_n (i := 1) dX4_endTalk_68 rfl rfl ?_
    refine PW.getf FX4_endTalk_210 dX4_endTalk_69 (sm_line hl) rfl ?_
    rw [f_write_r (by omega), up2_j (by decide), e4]
    refine PW.callV (k := kX4_endTalk) (n := 3) (c_release hl ho ht) dX4_endTalk_72 gX4_endTalk_X3_release rfl hd_X3_release rfl ⟨by decide, by decide⟩ ⟨rfl, rfl⟩ (Nat.le_of_ble_eq_true rfl) ⟨by decide, by decide⟩ sm_sw (by decide) rfl rfl (fun v m9 hp => ?_) (fun _ _ hx => hx.elim)
    obtain ⟨rfl, rfl⟩ := hp
    refine PW.aload_n (i := 1) dX4_endTalk_75 rfl rfl ?_
    refine PW.iconst (v := 5) dX4_endTalk_76 (by decide) ?_
    refine PW.aload_n (i := 0) dX4_endTalk_77 rfl rfl ?_
    refine PW.getf FX4_endTalk_75 dX4_endTalk_78 sm_desk rfl ?_
    refine PW.callV (k := kX4_endTalk) (n := 2) (c_enter hl _ _) dX4_endTalk_81 gX4_endTalk_X2_enter rfl hd_X2_enter rfl ⟨by decide, by decide⟩ ⟨rfl, rfl⟩ (Nat.le_of_ble_eq_true rfl) ⟨by decide, by decide⟩ (sm_line hl) (by decide) rfl rfl (fun v m9 hp => ?_) (fun _ _ hx => hx.elim)
    obtain ⟨rfl, rfl⟩ := hp
    refine PW.aload_n (i := 2) dX4_endTalk_84 rfl rfl ?_
    refine PW.iconst (v := 5) dX4_endTalk_85 (by decide) ?_
    refine PW.aload_n (i := 0) dX4_endTalk_86 rfl rfl ?_
    refine PW.getf FX4_endTalk_75 dX4_endTalk_87 sm_desk rfl ?_
    refine PW.callV (k := kX4_endTalk) (n := 2) (c_enter ho _ _) dX4_endTalk_90 gX4_endTalk_X2_enter rfl hd_X2_enter rfl ⟨by decide, by decide⟩ ⟨rfl, rfl⟩ (Nat.le_of_ble_eq_true rfl) ⟨by decide, by decide⟩ (sm_line ho) (by decide) rfl rfl (fun v m9 hp => ?_) (fun _ _ hx => hx.elim)
    obtain ⟨rfl, rfl⟩ := hp
    refine PW.aload_n (i := 2) dX4_endTalk_93 rfl rfl ?_
    exact PW.aret dX4_endTalk_94 rfl (Or.inr ⟨_, rfl⟩) ⟨rfl, by rw [f_end, payer, oth, slt, e3, e4, nI_clamp (show o < 2 ^ 31 by omega), nI_clamp (show t < 2 ^ 31 by omega)]; first | rw [if_pos h14]; rfl | rw [if_neg h14]; rfl⟩ (by decide) (by decide)
  · refine PW.aload_n (i := 1) dX4_endTalk_17 rfl rfl ?_
    refine PW.goto (tgt := 22) dX4_endTalk_18 (by decide) ?_
    refine PW.astore_n (i := 3) dX4_endTalk_22 rfl (by decide) rfl ?_
    refine PW.aload_n (i := 0) dX4_endTalk_23 rfl rfl ?_
    refine PW.aload_n (i := 3) dX4_endTalk_24 rfl rfl ?_
    refine PW.callV (k := kX4_endTalk) (n := 1) (c_unitsOf hl) dX4_endTalk_25 gX4_endTalk_X4_unitsOf rfl hd_X4_unitsOf rfl ⟨by decide, by decide⟩ ⟨rfl, rfl⟩ (Nat.le_of_ble_eq_true rfl) ⟨by decide, by decide⟩ sm_desk (by decide) rfl rfl (fun v m9 hp => ?_) (fun _ _ hx => hx.elim)
    obtain ⟨rfl, rfl⟩ := hp
    refine PW.istore dX4_endTalk_28 (by decide) rfl ?_
    refine PW.aload_n (i := 3) dX4_endTalk_30 rfl rfl ?_
    refine PW.dup dX4_endTalk_31 rfl ?_
    refine PW.getf FX4_endTalk_176 dX4_endTalk_32 (sm_line hl) rfl ?_
    refine PW.iload dX4_endTalk_35 rfl ?_
    refine PW.iadd dX4_endTalk_37 ?_
    refine PW.putf FX4_endTalk_176 (Fw_2_8 _) dX4_endTalk_38 (sm_line hl) (Nat.le_of_ble_eq_true rfl) (fun _ => rfl) (fun _ => rfl) (pu_line hl (by decide) (by decide)) ?_
    refine PW.aload_n (i := 0) dX4_endTalk_41 rfl rfl ?_
    refine PW.getf FX4_endTalk_45 dX4_endTalk_42 sm_desk rfl ?_
    refine PW.aload_n (i := 3) dX4_endTalk_45 rfl rfl ?_
    refine PW.getf FX4_endTalk_115 dX4_endTalk_46 (sm_line hl) rfl ?_
    refine PW.aload_n (i := 3) dX4_endTalk_49 rfl rfl ?_
    refine PW.getf FX4_endTalk_106 dX4_endTalk_50 (sm_line hl) rfl ?_
    refine PW.aload_n (i := 3) dX4_endTalk_53 rfl rfl ?_
    refine PW.getf FX4_endTalk_270 dX4_endTalk_54 (sm_line hl) rfl ?_
    refine PW.iload dX4_endTalk_57 rfl ?_
    refine PW.callV (k := kX4_endTalk) (n := 4) (c_write hw.2 (by rw [up2_r (by omega)]; exact hw.1) _ _ _ _) dX4_endTalk_59 gX4_endTalk_X0_write rfl hd_X0_write rfl ⟨by decide, by decide⟩ ⟨rfl, rfl⟩ (Nat.le_of_ble_eq_true rfl) ⟨by decide, by decide⟩ sm_book (by decide) rfl rfl (fun v m9 hp => ?_) (fun _ _ hx => hx.elim)
    obtain ⟨rfl, rfl⟩ := hp
    refine PW.aload_n (i := 0) dX4_endTalk_62 rfl rfl ?_
    refine PW.getf FX4_endTalk_21 dX4_endTalk_63 sm_desk rfl ?_
    refine PW.aload_n (i := 1) dX4_endTalk_66 rfl rfl ?_
    refine PW.aload_n (i := 2) dX4_endTalk_67 rfl rfl ?_
    refine PW.aload_n (i := 1) dX4_endTalk_68 rfl rfl ?_
    refine PW.getf FX4_endTalk_210 dX4_endTalk_69 (sm_line hl) rfl ?_
    rw [f_write_r (by omega), up2_j (by decide), e4]
    refine PW.callV (k := kX4_endTalk) (n := 3) (c_release hl ho ht) dX4_endTalk_72 gX4_endTalk_X3_release rfl hd_X3_release rfl ⟨by decide, by decide⟩ ⟨rfl, rfl⟩ (Nat.le_of_ble_eq_true rfl) ⟨by decide, by decide⟩ sm_sw (by decide) rfl rfl (fun v m9 hp => ?_) (fun _ _ hx => hx.elim)
    obtain ⟨rfl, rfl⟩ := hp
    refine PW.aload_n (i := 1) dX4_endTalk_75 rfl rfl ?_
    refine PW.iconst (v := 5) dX4_endTalk_76 (by decide) ?_
    refine PW.aload_n (i := 0) dX4_endTalk_77 rfl rfl ?_
    refine PW.getf FX4_endTalk_75 dX4_endTalk_78 sm_desk rfl ?_
    refine PW.callV (k := kX4_endTalk) (n := 2) (c_enter hl _ _) dX4_endTalk_81 gX4_endTalk_X2_enter rfl hd_X2_enter rfl ⟨by decide, by decide⟩ ⟨rfl, rfl⟩ (Nat.le_of_ble_eq_true rfl) ⟨by decide, by decide⟩ (sm_line hl) (by decide) rfl rfl (fun v m9 hp => ?_) (fun _ _ hx => hx.elim)
    obtain ⟨rfl, rfl⟩ := hp
    refine PW.aload_n (i := 2) dX4_endTalk_84 rfl rfl ?_
    refine PW.iconst (v := 5) dX4_endTalk_85 (by decide) ?_
    refine PW.aload_n (i := 0) dX4_endTalk_86 rfl rfl ?_
    refine PW.getf FX4_endTalk_75 dX4_endTalk_87 sm_desk rfl ?_
    refine PW.callV (k := kX4_endTalk) (n := 2) (c_enter ho _ _) dX4_endTalk_90 gX4_endTalk_X2_enter rfl hd_X2_enter rfl ⟨by decide, by decide⟩ ⟨rfl, rfl⟩ (Nat.le_of_ble_eq_true rfl) ⟨by decide, by decide⟩ (sm_line ho) (by decide) rfl rfl (fun v m9 hp => ?_) (fun _ _ hx => hx.elim)
    obtain ⟨rfl, rfl⟩ := hp
    refine PW.aload_n (i := 2) dX4_endTalk_93 rfl rfl ?_
    exact PW.aret dX4_endTalk_94 rfl (Or.inr ⟨_, rfl⟩) ⟨rfl, by rw [f_end, payer, oth, slt, e3, e4, nI_clamp (show o < 2 ^ 31 by omega), nI_clamp (show t < 2 ^ 31 by omega)]; first | rw [if_pos h14]; rfl | rw [if_neg h14]; rfl⟩ (by decide) (by decide)
