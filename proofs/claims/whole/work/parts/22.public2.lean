def ltf (M : dM) (l : Nat) : Nat := (M l 5).toNatClampNeg
def okC (M : dM) (l : Nat) : Prop := ¬ M l 5 = -1 ∧ ¬ M (ltf M l) 1 = 0 ∧ M (ltf M l) 10 = -1
def f_camp (M : dM) (l : Nat) : dM := up2 (up2 (f_enter M l 8 (M 39 5)) l 3 (M l 5)) (ltf M l) 10 (nI l)
set_option maxRecDepth 100000 in
set_option maxHeartbeats 4000000 in
theorem c_camp {M : dM} {R : pM} (hS : Sf M) (x : Int32) (l9 : Launch) : pMet l9 yX4_camp kX4_camp false [.ref 0, .int x] (SM M ++ R) (fun v m9 => ∃ l, l < 24 ∧ x = nI l ∧ okC M l ∧ v = some (.int (M l 5)) ∧ m9 = SM (f_camp M l) ++ R) (fun E m9 => m9 = SM M ++ R ∧ ((E = "java/lang/IllegalArgumentException" ∧ f_isLine x = false) ∨ (E = "java/lang/IllegalStateException" ∧ ∃ l, l < 24 ∧ x = nI l ∧ ¬ okC M l))) := by
  refine pMet.of (by decide) rfl rfl rfl (by intro v hv; simp only [List.mem_cons, List.not_mem_nil, or_false] at hv; rcases hv with rfl | rfl <;> rfl) (Nat.le_of_ble_eq_true rfl) ?_
  show PW _ _ _ _ _ 0 [some (.ref 0), some (.int x), none, none] [] (SM M ++ R) 0 0
  refine PW.aload_n (i := 0) dX4_camp_0 rfl rfl ?_
  refine PW.iload_n (i := 1) dX4_camp_1 rfl rfl ?_
  refine PW.callV (k := kX4_camp) (n := 1) (c_lineOf x) dX4_camp_2 gX4_camp_X4_lineOf rfl hd_X4_lineOf rfl ⟨by decide, by decide⟩ ⟨rfl, rfl⟩ (Nat.le_of_ble_eq_true rfl) ⟨by decide, by decide⟩ sm_desk (by decide) rfl rfl (fun v m9 hp => ?_) (fun E m9 hx => ?_)
  rotate_left
  · obtain ⟨hx, rfl, rfl⟩ := hx
    exact PT.out rfl ⟨rfl, Or.inl ⟨rfl, hx⟩⟩ (by decide) (by decide)
  obtain ⟨l, hl, rfl, rfl, rfl⟩ := hp
  refine PW.astore_n (i := 2) dX4_camp_5 rfl (by decide) rfl ?_
  refine PW.aload_n (i := 2) dX4_camp_6 rfl rfl ?_
  refine PW.getf FX4_camp_98 dX4_camp_7 (sm_line hl) rfl ?_
  refine PW.istore_n (i := 3) dX4_camp_10 rfl (by decide) rfl ?_
  refine PW.iload_n (i := 3) dX4_camp_11 rfl rfl ?_
  refine PW.iconst (v := (-1)) dX4_camp_12 (by decide) ?_
  refine PW.icmp_eq (tgt := 41) dX4_camp_13 (by decide) (fun h13 => ?_) (fun h13 => ?_)
  · exact PW.throwS (cls := "java/lang/IllegalStateException") (text := "the line can not camp") (names := ["java/lang/RuntimeException", "java/lang/Exception"]) (ik := 57) (is := 104) (ic := 61) (by decide +kernel) (by decide +kernel) (by decide +kernel) (by decide +kernel) (by decide +kernel) rfl (by decide +kernel) (fun _ h => List.mem_cons_of_mem _ (List.mem_append_left _ (List.mem_append_right _ h))) (by decide +kernel) (by decide +kernel) dX4_camp_41 dX4_camp_44 dX4_camp_45 dX4_camp_47 dX4_camp_50 rfl (by decide) (Nat.le_of_ble_eq_true rfl) (by decide) (by decide) (by decide) (by decide) (by first | exact ⟨rfl, Or.inr ⟨rfl, l, hl, rfl, fun q => q.1 h13⟩⟩ | exact ⟨rfl, Or.inr ⟨rfl, l, hl, rfl, fun q => by have := q.2.1; rw [ltf, e5, nI_clamp (by omega)] at this; exact this h25⟩⟩ | exact ⟨rfl, Or.inr ⟨rfl, l, hl, rfl, fun q => by have := q.2.2; rw [ltf, e5, nI_clamp (by omega)] at this; exact h38 this⟩⟩)
  · obtain ⟨m, hm, e5⟩ := ((hS.1 l hl).2.2.2.2).resolve_left h13
    refine PW.aload_n (i := 0) dX4_camp_16 rfl rfl ?_
    refine PW.getf FX4_camp_11 dX4_camp_17 sm_desk rfl ?_
    refine PW.iload_n (i := 3) dX4_camp_20 rfl rfl ?_
    refine PW.aald dX4_camp_21 sm_lines (by decide) (fun _ => rfl) rfl e5 (Nat.lt_trans hm (by decide)) (lnA_get hm) ?_
    refine PW.getf FX4_camp_64 dX4_camp_22 (sm_line hm) rfl ?_
    refine PW.if_eq (tgt := 41) dX4_camp_25 (by decide) (fun h25 => ?_) (fun h25 => ?_)
    · exact PW.throwS (cls := "java/lang/IllegalStateException") (text := "the line can not camp") (names := ["java/lang/RuntimeException", "java/lang/Exception"]) (ik := 57) (is := 104) (ic := 61) (by decide +kernel) (by decide +kernel) (by decide +kernel) (by decide +kernel) (by decide +kernel) rfl (by decide +kernel) (fun _ h => List.mem_cons_of_mem _ (List.mem_append_left _ (List.mem_append_right _ h))) (by decide +kernel) (by decide +kernel) dX4_camp_41 dX4_camp_44 dX4_camp_45 dX4_camp_47 dX4_camp_50 rfl (by decide) (Nat.le_of_ble_eq_true rfl) (by decide) (by decide) (by decide) (by decide) (by first | exact ⟨rfl, Or.inr ⟨rfl, l, hl, rfl, fun q => q.1 h13⟩⟩ | exact ⟨rfl, Or.inr ⟨rfl, l, hl, rfl, fun q => by have := q.2.1; rw [ltf, e5, nI_clamp (by omega)] at this; exact this h25⟩⟩ | exact ⟨rfl, Or.inr ⟨rfl, l, hl, rfl, fun q => by have := q.2.2; rw [ltf, e5, nI_clamp (by omega)] at this; exact h38 this⟩⟩)
    · refine PW.aload_n (i := 0) dX4_camp_28 rfl rfl ?_
      refine PW.getf FX4_camp_11 dX4_camp_29 sm_desk rfl ?_
      refine PW.iload_n (i := 3) dX4_camp_32 rfl rfl ?_
      refine PW.aald dX4_camp_33 sm_lines (by decide) (fun _ => rfl) rfl e5 (Nat.lt_trans hm (by decide)) (lnA_get hm) ?_
      refine PW.getf FX4_camp_101 dX4_camp_34 (sm_line hm) rfl ?_
      refine PW.iconst (v := (-1)) dX4_camp_37 (by decide) ?_
      refine PW.icmp_eq (tgt := 51) dX4_camp_38 (by decide) (fun h38 => ?_) (fun h38 => ?_)
      · refine PW.aload_n (i := 2) dX4_camp_51 rfl rfl ?_
        refine PW.bipush (v := 8) dX4_camp_52 (by decide) ?_
        refine PW.aload_n (i := 0) dX4_camp_54 rfl rfl ?_
        refine PW.getf FX4_camp_75 dX4_camp_55 sm_desk rfl ?_
        refine PW.callV (k := kX4_camp) (n := 2) (c_enter hl _ _) dX4_camp_58 gX4_camp_X2_enter rfl hd_X2_enter rfl ⟨by decide, by decide⟩ ⟨rfl, rfl⟩ (Nat.le_of_ble_eq_true rfl) ⟨by decide, by decide⟩ (sm_line hl) (by decide) rfl rfl (fun v m9 hp => ?_) (fun _ _ hx => hx.elim)
        obtain ⟨rfl, rfl⟩ := hp
        refine PW.aload_n (i := 2) dX4_camp_61 rfl rfl ?_
        refine PW.iload_n (i := 3) dX4_camp_62 rfl rfl ?_
        refine PW.putf FX4_camp_106 (Fw_2_3 _) dX4_camp_63 (sm_line hl) (Nat.le_of_ble_eq_true rfl) (fun _ => rfl) (fun _ => rfl) (pu_line hl (by decide) (by decide)) ?_
        refine PW.aload_n (i := 0) dX4_camp_66 rfl rfl ?_
        refine PW.getf FX4_camp_11 dX4_camp_67 sm_desk rfl ?_
        refine PW.iload_n (i := 3) dX4_camp_70 rfl rfl ?_
        refine PW.aald dX4_camp_71 sm_lines (by decide) (fun _ => rfl) rfl e5 (Nat.lt_trans hm (by decide)) (lnA_get hm) ?_
        refine PW.iload_n (i := 1) dX4_camp_72 rfl rfl ?_
        refine PW.putf FX4_camp_101 (Fw_2_10 _) dX4_camp_73 (sm_line hm) (Nat.le_of_ble_eq_true rfl) (fun _ => rfl) (fun _ => rfl) (pu_line hm (by decide) (by decide)) ?_
        refine PW.iload_n (i := 3) dX4_camp_76 rfl rfl ?_
        exact PW.iret dX4_camp_77 rfl ⟨l, hl, rfl, ⟨h13, by rw [ltf, e5, nI_clamp (by omega)]; exact h25, by rw [ltf, e5, nI_clamp (by omega)]; exact h38⟩, rfl, by rw [f_camp, ltf, e5, nI_clamp (by omega)]⟩ (by decide) (by decide)
      · exact PW.throwS (cls := "java/lang/IllegalStateException") (text := "the line can not camp") (names := ["java/lang/RuntimeException", "java/lang/Exception"]) (ik := 57) (is := 104) (ic := 61) (by decide +kernel) (by decide +kernel) (by decide +kernel) (by decide +kernel) (by decide +kernel) rfl (by decide +kernel) (fun _ h => List.mem_cons_of_mem _ (List.mem_append_left _ (List.mem_append_right _ h))) (by decide +kernel) (by decide +kernel) dX4_camp_41 dX4_camp_44 dX4_camp_45 dX4_camp_47 dX4_camp_50 rfl (by decide) (Nat.le_of_ble_eq_true rfl) (by decide) (by decide) (by decide) (by decide) (by first | exact ⟨rfl, Or.inr ⟨rfl, l, hl, rfl, fun q => q.1 h13⟩⟩ | exact ⟨rfl, Or.inr ⟨rfl, l, hl, rfl, fun q => by have := q.2.1; rw [ltf, e5, nI_clamp (by omega)] at this; exact this h25⟩⟩ | exact ⟨rfl, Or.inr ⟨rfl, l, hl, rfl, fun q => by have := q.2.2; rw [ltf, e5, nI_clamp (by omega)] at this; exact h38 this⟩⟩)
def okPl (y : Int32) : Prop := ¬ y < 0 ∧ ¬ 4 ≤ y
theorem okPl_of {y : Int32} (h : okPl y) : ∃ p, p < 4 ∧ y = nI p := by
  rcases pk_ix y (n := 4) (by decide) with h2 | h2 | h2
  · exact absurd h2 h.1
  · exact absurd h2 h.2
  · exact h2
def f_park (M : dM) (l p : Nat) : dM := up2 (up2 (f_enter (f_end M l) (oth M l) 7 (f_end M l 39 5)) (oth M l) 3 (nI p)) 36 p (nI (oth M l))
theorem f_end_36 {M : dM} {l : Nat} (h : Sf M) (hl : l < 24) (h6 : M l 1 = 6) {j : Nat} : f_end M l 36 j = M 36 j := by
  obtain ⟨o, t, ho, ht, e3, e4⟩ := (h.1 l hl).1 (Or.inr h6)
  have eo : oth M l = o := by rw [oth, e3, nI_clamp (by omega)]
  have hk : payer M l < 24 := by
    unfold payer
    rw [eo]
    split <;> assumption
  unfold f_end f_end3 f_end2 f_end1
  rw [eo, f_enter_r (by omega), f_enter_r (by omega), f_mark_r (by omega) (by omega), f_write_r (by omega), up2_r (by omega)]
set_option maxRecDepth 100000 in
set_option maxHeartbeats 4000000 in
theorem c_park {M : dM} {R : pM} (hS : Sf M) (hw : M 37 1 = nI (wr M) ∧ wr M < 100000) (x y : Int32) (l9 : Launch) : pMet l9 yX4_park kX4_park false [.ref 0, .int x, .int y] (SM M ++ R) (fun v m9 => ∃ l p, l < 24 ∧ p < 4 ∧ x = nI l ∧ y = nI p ∧ (M l 1 = 6 ∧ M 36 p = -1) ∧ v = some (.int (nI (oth M l))) ∧ m9 = SM (f_park M l p) ++ R) (fun E m9 => m9 = SM M ++ R ∧ ((E = "java/lang/IllegalArgumentException" ∧ (f_isLine x = false ∨ ¬ okPl y)) ∨ (E = "java/lang/IllegalStateException" ∧ ∃ l p, l < 24 ∧ p < 4 ∧ x = nI l ∧ y = nI p ∧ ¬ (M l 1 = 6 ∧ M 36 p = -1)))) := by
  refine pMet.of (by decide) rfl rfl rfl (by intro v hv; simp only [List.mem_cons, List.not_mem_nil, or_false] at hv; rcases hv with rfl | rfl | rfl <;> rfl) (Nat.le_of_ble_eq_true rfl) ?_
  show PW _ _ _ _ _ 0 [some (.ref 0), some (.int x), some (.int y), none, none] [] (SM M ++ R) 0 0
  refine PW.aload_n (i := 0) dX4_park_0 rfl rfl ?_
  refine PW.iload_n (i := 1) dX4_park_1 rfl rfl ?_
  refine PW.callV (k := kX4_park) (n := 1) (c_lineOf x) dX4_park_2 gX4_park_X4_lineOf rfl hd_X4_lineOf rfl ⟨by decide, by decide⟩ ⟨rfl, rfl⟩ (Nat.le_of_ble_eq_true rfl) ⟨by decide, by decide⟩ sm_desk (by decide) rfl rfl (fun v m9 hp => ?_) (fun E m9 hx => ?_)
  rotate_left
  · obtain ⟨hx, rfl, rfl⟩ := hx
    exact PT.out rfl ⟨rfl, Or.inl ⟨rfl, Or.inl hx⟩⟩ (by decide) (by decide)
  obtain ⟨l, hl, rfl, rfl, rfl⟩ := hp
  refine PW.astore_n (i := 3) dX4_park_5 rfl (by decide) rfl ?_
  refine PW.iload_n (i := 2) dX4_park_6 rfl rfl ?_
  refine PW.if_lt (tgt := 19) dX4_park_7 (by decide) (fun h7 => ?_) (fun h7 => ?_)
  · refine PW.iconst (v := 0) dX4_park_19 (by decide) ?_
    refine PW.callS (k := kX4_park) (n := 1) (c_require false) dX4_park_20 gX4_park_X4_require rfl hs_X4_require rfl ⟨by decide, by decide⟩ ⟨rfl, rfl⟩ (Nat.le_of_ble_eq_true rfl) ⟨by decide, by decide⟩ rfl (fun _ _ hp => absurd hp.1 (by decide)) (fun E m9 hx => ?_)
    obtain ⟨-, rfl, rfl⟩ := hx
    exact PT.out rfl ⟨rfl, Or.inl ⟨rfl, Or.inr (fun q => q.1 h7)⟩⟩ (by decide) (by decide)
  · refine PW.iload_n (i := 2) dX4_park_10 rfl rfl ?_
    refine PW.iconst (v := 4) dX4_park_11 (by decide) ?_
    refine PW.icmp_ge (tgt := 19) dX4_park_12 (by decide) (fun h12 => ?_) (fun h12 => ?_)
    · refine PW.iconst (v := 0) dX4_park_19 (by decide) ?_
      refine PW.callS (k := kX4_park) (n := 1) (c_require false) dX4_park_20 gX4_park_X4_require rfl hs_X4_require rfl ⟨by decide, by decide⟩ ⟨rfl, rfl⟩ (Nat.le_of_ble_eq_true rfl) ⟨by decide, by decide⟩ rfl (fun _ _ hp => absurd hp.1 (by decide)) (fun E m9 hx => ?_)
      obtain ⟨-, rfl, rfl⟩ := hx
      exact PT.out rfl ⟨rfl, Or.inl ⟨rfl, Or.inr (fun q => q.2 h12)⟩⟩ (by decide) (by decide)
    · refine PW.iconst (v := 1) dX4_park_15 (by decide) ?_
      refine PW.goto (tgt := 20) dX4_park_16 (by decide) ?_
      refine PW.callS (k := kX4_park) (n := 1) (c_require true) dX4_park_20 gX4_park_X4_require rfl hs_X4_require rfl ⟨by decide, by decide⟩ ⟨rfl, rfl⟩ (Nat.le_of_ble_eq_true rfl) ⟨by decide, by decide⟩ rfl (fun v m9 hp => ?_) (fun _ _ hx => absurd hx.1 (by decide))
      obtain ⟨-, rfl, rfl⟩ := hp
      obtain ⟨p, hp, rfl⟩ := okPl_of ⟨h7, h12⟩
      refine PW.aload_n (i := 3) dX4_park_23 rfl rfl ?_
      refine PW.getf FX4_park_64 dX4_park_24 (sm_line hl) rfl ?_
      refine PW.bipush (v := 6) dX4_park_27 (by decide) ?_
      refine PW.icmp_ne (tgt := 42) dX4_park_29 (by decide) (fun h29 => ?_) (fun h29 => ?_)
      · exact PW.throwS (cls := "java/lang/IllegalStateException") (text := "the line does not talk, or the place is not free") (names := ["java/lang/RuntimeException", "java/lang/Exception"]) (ik := 57) (is := 109) (ic := 61) (by decide +kernel) (by decide +kernel) (by decide +kernel) (by decide +kernel) (by decide +kernel) rfl (by decide +kernel) (fun _ h => List.mem_cons_of_mem _ (List.mem_append_left _ (List.mem_append_right _ h))) (by decide +kernel) (by decide +kernel) dX4_park_42 dX4_park_45 dX4_park_46 dX4_park_48 dX4_park_51 rfl (by decide) (Nat.le_of_ble_eq_true rfl) (by decide) (by decide) (by decide) (by decide) (by first | exact ⟨rfl, Or.inr ⟨rfl, l, p, hl, hp, rfl, rfl, fun q => h29 q.1⟩⟩ | exact ⟨rfl, Or.inr ⟨rfl, l, p, hl, hp, rfl, rfl, fun q => h39 q.2⟩⟩)
      · refine PW.aload_n (i := 0) dX4_park_32 rfl rfl ?_
        refine PW.getf FX4_park_32 dX4_park_33 sm_desk rfl ?_
        refine PW.iload_n (i := 2) dX4_park_36 rfl rfl ?_
        refine PW.iald dX4_park_37 sm_plc rfl (by omega) (iaF_get hp) ?_
        refine PW.iconst (v := (-1)) dX4_park_38 (by decide) ?_
        refine PW.icmp_eq (tgt := 52) dX4_park_39 (by decide) (fun h39 => ?_) (fun h39 => ?_)
        · obtain ⟨o, t, ho, ht, e3, e4⟩ := (hS.1 l hl).1 (Or.inr h29)
          have eo : oth M l = o := by rw [oth, e3, nI_clamp (by omega)]
          refine PW.aload_n (i := 0) dX4_park_52 rfl rfl ?_
          refine PW.aload_n (i := 3) dX4_park_53 rfl rfl ?_
          refine PW.callV (k := kX4_park) (n := 1) (c_endTalk hl ho ht e3 e4 hw) dX4_park_54 gX4_park_X4_endTalk rfl hd_X4_endTalk rfl ⟨by decide, by decide⟩ ⟨rfl, rfl⟩ (Nat.le_of_ble_eq_true rfl) ⟨by decide, by decide⟩ sm_desk (by decide) rfl rfl (fun v m9 hp => ?_) (fun _ _ hx => hx.elim)
          obtain ⟨rfl, rfl⟩ := hp
          refine PW.astore dX4_park_57 (by decide) rfl ?_
          refine PW.aload dX4_park_59 rfl ?_
          refine PW.bipush (v := 7) dX4_park_61 (by decide) ?_
          refine PW.aload_n (i := 0) dX4_park_63 rfl rfl ?_
          refine PW.getf FX4_park_75 dX4_park_64 sm_desk rfl ?_
          refine PW.callV (k := kX4_park) (n := 2) (c_enter ho _ _) dX4_park_67 gX4_park_X2_enter rfl hd_X2_enter rfl ⟨by decide, by decide⟩ ⟨rfl, rfl⟩ (Nat.le_of_ble_eq_true rfl) ⟨by decide, by decide⟩ (sm_line ho) (by decide) rfl rfl (fun v m9 hp => ?_) (fun _ _ hx => hx.elim)
          obtain ⟨rfl, rfl⟩ := hp
          refine PW.aload dX4_park_70 rfl ?_
          refine PW.iload_n (i := 2) dX4_park_72 rfl rfl ?_
          refine PW.putf FX4_park_106 (Fw_2_3 _) dX4_park_73 (sm_line ho) (Nat.le_of_ble_eq_true rfl) (fun _ => rfl) (fun _ => rfl) (pu_line ho (by decide) (by decide)) ?_
          refine PW.aload_n (i := 0) dX4_park_76 rfl rfl ?_
          refine PW.getf FX4_park_32 dX4_park_77 sm_desk rfl ?_
          refine PW.iload_n (i := 2) dX4_park_80 rfl rfl ?_
          refine PW.aload dX4_park_81 rfl ?_
          refine PW.getf FX4_park_115 dX4_park_83 (sm_line ho) rfl ?_
          refine PW.iast dX4_park_86 sm_plc rfl (by omega) (by rw [iaF_len]; exact hp) pu_plc ?_
          refine PW.aload dX4_park_87 rfl ?_
          refine PW.getf FX4_park_115 dX4_park_89 (sm_line ho) rfl ?_
          exact PW.iret dX4_park_92 rfl ⟨l, p, hl, hp, rfl, rfl, ⟨h29, h39⟩, by rw [eo], by rw [f_park, eo]⟩ (by decide) (by decide)
        · exact PW.throwS (cls := "java/lang/IllegalStateException") (text := "the line does not talk, or the place is not free") (names := ["java/lang/RuntimeException", "java/lang/Exception"]) (ik := 57) (is := 109) (ic := 61) (by decide +kernel) (by decide +kernel) (by decide +kernel) (by decide +kernel) (by decide +kernel) rfl (by decide +kernel) (fun _ h => List.mem_cons_of_mem _ (List.mem_append_left _ (List.mem_append_right _ h))) (by decide +kernel) (by decide +kernel) dX4_park_42 dX4_park_45 dX4_park_46 dX4_park_48 dX4_park_51 rfl (by decide) (Nat.le_of_ble_eq_true rfl) (by decide) (by decide) (by decide) (by decide) (by first | exact ⟨rfl, Or.inr ⟨rfl, l, p, hl, hp, rfl, rfl, fun q => h29 q.1⟩⟩ | exact ⟨rfl, Or.inr ⟨rfl, l, p, hl, hp, rfl, rfl, fun q => h39 q.2⟩⟩)
def okN (y : Int32) : Prop := ¬ y < 10 ∧ ¬ 99 < y
def f_trans (M : dM) (l : Nat) (y : Int32) : dM := f_camps (f_call (f_end M l) (oth M l) y)
set_option maxRecDepth 100000 in
set_option maxHeartbeats 4000000 in
theorem c_transfer {M : dM} {R : pM} (hS : Sf M) (hw : M 37 1 = nI (wr M) ∧ wr M < 100000) (x y : Int32) (l9 : Launch) : pMet l9 yX4_transfer kX4_transfer false [.ref 0, .int x, .int y] (SM M ++ R) (fun v m9 => ∃ l, l < 24 ∧ x = nI l ∧ (M l 1 = 6 ∧ okN y) ∧ v = some (.int (f_trans M l y (oth M l) 1)) ∧ m9 = SM (f_trans M l y) ++ R) (fun E m9 => m9 = SM M ++ R ∧ ((E = "java/lang/IllegalArgumentException" ∧ (f_isLine x = false ∨ ¬ okN y)) ∨ (E = "java/lang/IllegalStateException" ∧ ∃ l, l < 24 ∧ x = nI l ∧ okN y ∧ ¬ M l 1 = 6))) := by
  refine pMet.of (by decide) rfl rfl rfl (by intro v hv; simp only [List.mem_cons, List.not_mem_nil, or_false] at hv; rcases hv with rfl | rfl | rfl <;> rfl) (Nat.le_of_ble_eq_true rfl) ?_
  show PW _ _ _ _ _ 0 [some (.ref 0), some (.int x), some (.int y), none, none] [] (SM M ++ R) 0 0
  refine PW.aload_n (i := 0) dX4_transfer_0 rfl rfl ?_
  refine PW.iload_n (i := 1) dX4_transfer_1 rfl rfl ?_
  refine PW.callV (k := kX4_transfer) (n := 1) (c_lineOf x) dX4_transfer_2 gX4_transfer_X4_lineOf rfl hd_X4_lineOf rfl ⟨by decide, by decide⟩ ⟨rfl, rfl⟩ (Nat.le_of_ble_eq_true rfl) ⟨by decide, by decide⟩ sm_desk (by decide) rfl rfl (fun v m9 hp => ?_) (fun E m9 hx => ?_)
  rotate_left
  · obtain ⟨hx, rfl, rfl⟩ := hx
    exact PT.out rfl ⟨rfl, Or.inl ⟨rfl, Or.inl hx⟩⟩ (by decide) (by decide)
  obtain ⟨l, hl, rfl, rfl, rfl⟩ := hp
  refine PW.astore_n (i := 3) dX4_transfer_5 rfl (by decide) rfl ?_
  refine PW.iload_n (i := 2) dX4_transfer_6 rfl rfl ?_
  refine PW.bipush (v := 10) dX4_transfer_7 (by decide) ?_
  refine PW.icmp_lt (tgt := 22) dX4_transfer_9 (by decide) (fun h9 => ?_) (fun h9 => ?_)
  · refine PW.iconst (v := 0) dX4_transfer_22 (by decide) ?_
    refine PW.callS (k := kX4_transfer) (n := 1) (c_require false) dX4_transfer_23 gX4_transfer_X4_require rfl hs_X4_require rfl ⟨by decide, by decide⟩ ⟨rfl, rfl⟩ (Nat.le_of_ble_eq_true rfl) ⟨by decide, by decide⟩ rfl (fun _ _ hp => absurd hp.1 (by decide)) (fun E m9 hx => ?_)
    obtain ⟨-, rfl, rfl⟩ := hx
    exact PT.out rfl ⟨rfl, Or.inl ⟨rfl, Or.inr (fun q => q.1 h9)⟩⟩ (by decide) (by decide)
  · refine PW.iload_n (i := 2) dX4_transfer_12 rfl rfl ?_
    refine PW.bipush (v := 99) dX4_transfer_13 (by decide) ?_
    refine PW.icmp_gt (tgt := 22) dX4_transfer_15 (by decide) (fun h15 => ?_) (fun h15 => ?_)
    · refine PW.iconst (v := 0) dX4_transfer_22 (by decide) ?_
      refine PW.callS (k := kX4_transfer) (n := 1) (c_require false) dX4_transfer_23 gX4_transfer_X4_require rfl hs_X4_require rfl ⟨by decide, by decide⟩ ⟨rfl, rfl⟩ (Nat.le_of_ble_eq_true rfl) ⟨by decide, by decide⟩ rfl (fun _ _ hp => absurd hp.1 (by decide)) (fun E m9 hx => ?_)
      obtain ⟨-, rfl, rfl⟩ := hx
      exact PT.out rfl ⟨rfl, Or.inl ⟨rfl, Or.inr (fun q => q.2 h15)⟩⟩ (by decide) (by decide)
    · refine PW.iconst (v := 1) dX4_transfer_18 (by decide) ?_
      refine PW.goto (tgt := 23) dX4_transfer_19 (by decide) ?_
      refine PW.callS (k := kX4_transfer) (n := 1) (c_require true) dX4_transfer_23 gX4_transfer_X4_require rfl hs_X4_require rfl ⟨by decide, by decide⟩ ⟨rfl, rfl⟩ (Nat.le_of_ble_eq_true rfl) ⟨by decide, by decide⟩ rfl (fun v m9 hp => ?_) (fun _ _ hx => absurd hx.1 (by decide))
      obtain ⟨-, rfl, rfl⟩ := hp
      refine PW.aload_n (i := 3) dX4_transfer_26 rfl rfl ?_
      refine PW.getf FX4_transfer_64 dX4_transfer_27 (sm_line hl) rfl ?_
      refine PW.bipush (v := 6) dX4_transfer_30 (by decide) ?_
      refine PW.icmp_eq (tgt := 45) dX4_transfer_32 (by decide) (fun h32 => ?_) (fun h32 => ?_)
      · obtain ⟨o, t, ho, ht, e3, e4⟩ := (hS.1 l hl).1 (Or.inr h32)
        have eo : oth M l = o := by rw [oth, e3, nI_clamp (by omega)]
        have hS2 := hS.end hl h32
        refine PW.aload_n (i := 0) dX4_transfer_45 rfl rfl ?_
        refine PW.aload_n (i := 3) dX4_transfer_46 rfl rfl ?_
        refine PW.callV (k := kX4_transfer) (n := 1) (c_endTalk hl ho ht e3 e4 hw) dX4_transfer_47 gX4_transfer_X4_endTalk rfl hd_X4_endTalk rfl ⟨by decide, by decide⟩ ⟨rfl, rfl⟩ (Nat.le_of_ble_eq_true rfl) ⟨by decide, by decide⟩ sm_desk (by decide) rfl rfl (fun v m9 hp => ?_) (fun _ _ hx => hx.elim)
        obtain ⟨rfl, rfl⟩ := hp
        refine PW.astore dX4_transfer_50 (by decide) rfl ?_
        refine PW.aload_n (i := 0) dX4_transfer_52 rfl rfl ?_
        refine PW.aload dX4_transfer_53 rfl ?_
        refine PW.iload_n (i := 2) dX4_transfer_55 rfl rfl ?_
        refine PW.callV (k := kX4_transfer) (n := 2) (c_call hS2 ho _) dX4_transfer_56 gX4_transfer_X4_call rfl hd_X4_call rfl ⟨by decide, by decide⟩ ⟨rfl, rfl⟩ (Nat.le_of_ble_eq_true rfl) ⟨by decide, by decide⟩ sm_desk (by decide) rfl rfl (fun v m9 hp => ?_) (fun _ _ hx => hx.elim)
        obtain ⟨rfl, rfl⟩ := hp
        refine PW.aload_n (i := 0) dX4_transfer_59 rfl rfl ?_
        refine PW.callV (k := kX4_transfer) (n := 0) (c_callFromCamps (hS2.call ho)) dX4_transfer_60 gX4_transfer_X4_callFromCamps rfl hd_X4_callFromCamps rfl ⟨by decide, by decide⟩ ⟨rfl, rfl⟩ (Nat.le_of_ble_eq_true rfl) ⟨by decide, by decide⟩ sm_desk (by decide) rfl rfl (fun v m9 hp => ?_) (fun _ _ hx => hx.elim)
        obtain ⟨rfl, rfl⟩ := hp
        refine PW.aload dX4_transfer_63 rfl ?_
        refine PW.getf FX4_transfer_64 dX4_transfer_65 (sm_line ho) rfl ?_
        exact PW.iret dX4_transfer_68 rfl ⟨l, hl, rfl, ⟨h32, h9, h15⟩, by rw [f_trans, eo], by rw [f_trans, eo]⟩ (by decide) (by decide)
      · exact PW.throwS (cls := "java/lang/IllegalStateException") (text := "the line does not talk") (names := ["java/lang/RuntimeException", "java/lang/Exception"]) (ik := 57) (is := 118) (ic := 61) (by decide +kernel) (by decide +kernel) (by decide +kernel) (by decide +kernel) (by decide +kernel) rfl (by decide +kernel) (fun _ h => List.mem_cons_of_mem _ (List.mem_append_left _ (List.mem_append_right _ h))) (by decide +kernel) (by decide +kernel) dX4_transfer_35 dX4_transfer_38 dX4_transfer_39 dX4_transfer_41 dX4_transfer_44 rfl (by decide) (Nat.le_of_ble_eq_true rfl) (by decide) (by decide) (by decide) (by decide) ⟨rfl, Or.inr ⟨rfl, l, hl, rfl, ⟨h9, h15⟩, h32⟩⟩
def nxt (M : dM) (e : Int32) : Int32 := if (if M 39 5 + 1 < f_ed M then f_ed M else M 39 5 + 1) < e then (if M 39 5 + 1 < f_ed M then f_ed M else M 39 5 + 1) else e
theorem nxt_lt {M : dM} {e : Int32} (he : e < 2147483647) : nxt M e < 2147483647 := by
  unfold nxt
  generalize (if M 39 5 + 1 < f_ed M then f_ed M else M 39 5 + 1) = z
  split
  · next h => exact Int32.lt_trans h he
  · exact he
def tkL (e : Int32) : Nat → dM → dM
  | 0, M => M
  | n + 1, M => if M 39 5 < e then tkL e n (f_look (up2 M 39 5 (nxt M e))) else M
def okT (x : Int32) : Prop := ¬ x < 1 ∧ ¬ 1000 < x
theorem okT_of {x : Int32} (h : okT x) : ∃ n, 1 ≤ n ∧ n < 1001 ∧ x = nI n := rng (a := 1) (b := 1001) (by decide) (by decide) h.1 (fun q => h.2 (by
  have q2 : (1001 : Int32).toInt ≤ x.toInt := Int32.le_iff_toInt_le.mp q
  have e1 : (1001 : Int32).toInt = 1001 := by decide
  have e2 : (1000 : Int32).toInt = 1000 := by decide
  exact Int32.lt_iff_toInt_lt.mpr (by omega)))
def f_tick (M : dM) (x : Int32) : dM := tkL (M 39 5 + x) x.toNatClampNeg M
set_option maxRecDepth 100000 in
set_option maxHeartbeats 4000000 in
theorem tk_loop {R : pM} {n0 N : Nat} {e : Int32} {fin : dM} {T : pT} (hN : okT (nI N)) (hN9 : N < 1001) (he : e < 2147483647) : ∀ (n s : Nat) (M : dM), s + n = N → Sf M → tkL e n M = fin → PW kX4_tick false n0 (fun v m9 => okT (nI N) ∧ v = some (.int (fin 39 5)) ∧ m9 = SM fin ++ R) T 29 [some (.ref 0), some (.int (nI N)), some (.int e), some (.int (nI s))] [] (SM M ++ R) 1 6 := by
  intro n
  induction n with
  | zero =>
    intro s M hs hS hr
    refine PW.iload_n (i := 3) dX4_tick_29 rfl rfl ?_
    refine PW.iload_n (i := 1) dX4_tick_30 rfl rfl ?_
    refine PW.icmp_ge (tgt := 73) dX4_tick_31 (by decide) (fun _ => ?_) (fun h31 => absurd (nI_le (a := N) (b := s) (by omega) (by omega)) h31)
    refine PW.aload_n (i := 0) dX4_tick_73 rfl rfl ?_
    refine PW.getf FX4_tick_75 dX4_tick_74 sm_desk rfl ?_
    exact PW.iret dX4_tick_77 rfl ⟨hN, by rw [← hr]; rfl, by rw [← hr]; rfl⟩ (by decide) (by decide)
  | succ n ih =>
    intro s M hs hS hr
    refine PW.iload_n (i := 3) dX4_tick_29 rfl rfl ?_
    refine PW.iload_n (i := 1) dX4_tick_30 rfl rfl ?_
    refine PW.icmp_ge (tgt := 73) dX4_tick_31 (by decide) (fun h31 => absurd h31 (nI_ge (a := s) (b := N) (by omega) (by omega))) (fun _ => ?_)
    refine PW.aload_n (i := 0) dX4_tick_34 rfl rfl ?_
    refine PW.getf FX4_tick_75 dX4_tick_35 sm_desk rfl ?_
    refine PW.iload_n (i := 2) dX4_tick_38 rfl rfl ?_
    refine PW.icmp_ge (tgt := 73) dX4_tick_39 (by decide) (fun h39 => ?_) (fun h39 => ?_)
    · refine PW.aload_n (i := 0) dX4_tick_73 rfl rfl ?_
      refine PW.getf FX4_tick_75 dX4_tick_74 sm_desk rfl ?_
      exact PW.iret dX4_tick_77 rfl ⟨hN, by rw [← hr, tkL, if_neg (Int32.not_lt.mpr h39)], by rw [← hr, tkL, if_neg (Int32.not_lt.mpr h39)]⟩ (by decide) (by decide)
    · refine PW.aload_n (i := 0) dX4_tick_42 rfl rfl ?_
      refine PW.iload_n (i := 2) dX4_tick_43 rfl rfl ?_
      refine PW.aload_n (i := 0) dX4_tick_44 rfl rfl ?_
      refine PW.getf FX4_tick_75 dX4_tick_45 sm_desk rfl ?_
      refine PW.iconst (v := 1) dX4_tick_48 (by decide) ?_
      refine PW.iadd dX4_tick_49 ?_
      refine PW.aload_n (i := 0) dX4_tick_50 rfl rfl ?_
      refine PW.callV (k := kX4_tick) (n := 0) (c_earliestDue) dX4_tick_51 gX4_tick_X4_earliestDue rfl hd_X4_earliestDue rfl ⟨by decide, by decide⟩ ⟨rfl, rfl⟩ (Nat.le_of_ble_eq_true rfl) ⟨by decide, by decide⟩ sm_desk (by decide) rfl rfl (fun v m9 hp => ?_) (fun _ _ hx => hx.elim)
      obtain ⟨rfl, rfl⟩ := hp
      refine PW.mmax dX4_tick_54 (by decide +kernel) (by decide +kernel) (by decide +kernel) (by decide +kernel) (by decide) (Nat.le_of_ble_eq_true rfl) (by decide) (by decide) ?_
      refine PW.mmin dX4_tick_57 (by decide +kernel) (by decide +kernel) (by decide +kernel) (by decide +kernel) (by decide) (Nat.le_of_ble_eq_true rfl) (by decide) (by decide) ?_
      refine PW.putf FX4_tick_75 (Fw_4_5 _) dX4_tick_60 sm_desk (Nat.le_of_ble_eq_true rfl) (fun _ => rfl) (fun _ => rfl) pu_time ?_
      have hS2 : Sf (up2 M 39 5 (nxt M e)) := hS.up (by decide)
      have ht2 : up2 M 39 5 (nxt M e) 39 5 < 2147483647 := by rw [up2_s]; exact nxt_lt he
      refine PW.aload_n (i := 0) dX4_tick_63 rfl rfl ?_
      refine PW.callV (k := kX4_tick) (n := 0) (c_lookAtTimers hS2 ht2) dX4_tick_64 gX4_tick_X4_lookAtTimers rfl hd_X4_lookAtTimers rfl ⟨by decide, by decide⟩ ⟨rfl, rfl⟩ (Nat.le_of_ble_eq_true rfl) ⟨by decide, by decide⟩ sm_desk (by decide) rfl rfl (fun v m9 hp => ?_) (fun _ _ hx => hx.elim)
      obtain ⟨rfl, rfl⟩ := hp
      refine PW.iinc (v := nI (s + 1)) dX4_tick_67 rfl (nI_1 s) (by decide) rfl ?_
      refine PW.goto (tgt := 29) dX4_tick_70 (by decide) ?_
      exact ih (s + 1) _ (by omega) (la_keep 24 0 _ rfl hS2).1 (by rw [← hr, tkL, if_pos (Int32.not_le.mp h39)])
set_option maxRecDepth 100000 in
set_option maxHeartbeats 4000000 in
theorem c_tick {M : dM} {R : pM} (hS : Sf M) (x : Int32) (ht : okT x → M 39 5 + x < 2147483647) (l9 : Launch) : pMet l9 yX4_tick kX4_tick false [.ref 0, .int x] (SM M ++ R) (fun v m9 => okT x ∧ v = some (.int (f_tick M x 39 5)) ∧ m9 = SM (f_tick M x) ++ R) (fun E m9 => m9 = SM M ++ R ∧ ((E = "java/lang/IllegalArgumentException" ∧ ¬ okT x) ∨ (E = "java/lang/IllegalStateException" ∧ False))) := by
  refine pMet.of (by decide) rfl rfl rfl (by intro v hv; simp only [List.mem_cons, List.not_mem_nil, or_false] at hv; rcases hv with rfl | rfl <;> rfl) (Nat.le_of_ble_eq_true rfl) ?_
  show PW _ _ _ _ _ 0 [some (.ref 0), some (.int x), none, none] [] (SM M ++ R) 0 0
  refine PW.iload_n (i := 1) dX4_tick_0 rfl rfl ?_
  refine PW.iconst (v := 1) dX4_tick_1 (by decide) ?_
  refine PW.icmp_lt (tgt := 16) dX4_tick_2 (by decide) (fun h2 => ?_) (fun h2 => ?_)
  · refine PW.iconst (v := 0) dX4_tick_16 (by decide) ?_
    refine PW.callS (k := kX4_tick) (n := 1) (c_require false) dX4_tick_17 gX4_tick_X4_require rfl hs_X4_require rfl ⟨by decide, by decide⟩ ⟨rfl, rfl⟩ (Nat.le_of_ble_eq_true rfl) ⟨by decide, by decide⟩ rfl (fun _ _ hp => absurd hp.1 (by decide)) (fun E m9 hx => ?_)
    obtain ⟨-, rfl, rfl⟩ := hx
    exact PT.out rfl ⟨rfl, Or.inl ⟨rfl, fun q => q.1 h2⟩⟩ (by decide) (by decide)
  · refine PW.iload_n (i := 1) dX4_tick_5 rfl rfl ?_
    refine PW.sipush (v := 1000) dX4_tick_6 (by decide) ?_
    refine PW.icmp_gt (tgt := 16) dX4_tick_9 (by decide) (fun h9 => ?_) (fun h9 => ?_)
    · refine PW.iconst (v := 0) dX4_tick_16 (by decide) ?_
      refine PW.callS (k := kX4_tick) (n := 1) (c_require false) dX4_tick_17 gX4_tick_X4_require rfl hs_X4_require rfl ⟨by decide, by decide⟩ ⟨rfl, rfl⟩ (Nat.le_of_ble_eq_true rfl) ⟨by decide, by decide⟩ rfl (fun _ _ hp => absurd hp.1 (by decide)) (fun E m9 hx => ?_)
      obtain ⟨-, rfl, rfl⟩ := hx
      exact PT.out rfl ⟨rfl, Or.inl ⟨rfl, fun q => q.2 h9⟩⟩ (by decide) (by decide)
    · refine PW.iconst (v := 1) dX4_tick_12 (by decide) ?_
      refine PW.goto (tgt := 17) dX4_tick_13 (by decide) ?_
      refine PW.callS (k := kX4_tick) (n := 1) (c_require true) dX4_tick_17 gX4_tick_X4_require rfl hs_X4_require rfl ⟨by decide, by decide⟩ ⟨rfl, rfl⟩ (Nat.le_of_ble_eq_true rfl) ⟨by decide, by decide⟩ rfl (fun v m9 hp => ?_) (fun _ _ hx => absurd hx.1 (by decide))
      obtain ⟨-, rfl, rfl⟩ := hp
      refine PW.aload_n (i := 0) dX4_tick_20 rfl rfl ?_
      refine PW.getf FX4_tick_75 dX4_tick_21 sm_desk rfl ?_
      refine PW.iload_n (i := 1) dX4_tick_24 rfl rfl ?_
      refine PW.iadd dX4_tick_25 ?_
      refine PW.istore_n (i := 2) dX4_tick_26 rfl (by decide) rfl ?_
      refine PW.iconst (v := 0) dX4_tick_27 (by decide) ?_
      refine PW.istore_n (i := 3) dX4_tick_28 rfl (by decide) rfl ?_
      have ho : okT x := ⟨h2, h9⟩
      have he := ht ho
      obtain ⟨N, hN1, hN2, rfl⟩ := okT_of ho
      exact tk_loop ho hN2 he N 0 _ (by omega) hS (by rw [f_tick, nI_clamp (by omega)])
def okO (z : Int32) : Prop := ¬ z < 0 ∧ ¬ 3 < z
def hasG (M : dM) (g : Nat) (y : Int32) : Bool := hasL (M (32 + g)) y (grN M g) 0
def okAdd (M : dM) (g : Nat) (y : Int32) : Prop := f_isLine y = true ∧ hasG M g y = false
def f_join (M : dM) (g : Nat) (y : Int32) : dM := f_add M g (grN M g) y
set_option maxRecDepth 100000 in
set_option maxHeartbeats 4000000 in
theorem c_group {M : dM} {R : pM} (hS : Sf M) (x y z : Int32) (l9 : Launch) : pMet l9 yX4_group kX4_group false [.ref 0, .int x, .int y, .int z] (SM M ++ R) (fun v m9 => (∃ g, g < 4 ∧ x = nI g ∧ y = -1 ∧ okO z ∧ v = some (.int 0) ∧ m9 = SM (f_restart M g z) ++ R) ∨ ∃ g, g < 4 ∧ x = nI g ∧ ¬ y = -1 ∧ okAdd M g y ∧ ¬ M (28 + g) 1 = 6 ∧ v = some (.int (f_join M g y (28 + g) 1)) ∧ m9 = SM (f_join M g y) ++ R) (fun E m9 => m9 = SM M ++ R ∧ ((E = "java/lang/IllegalArgumentException" ∧ (¬ okPl x ∨ ∃ g, g < 4 ∧ x = nI g ∧ ((y = -1 ∧ ¬ okO z) ∨ (¬ y = -1 ∧ ¬ okAdd M g y)))) ∨ (E = "java/lang/IllegalStateException" ∧ ∃ g, g < 4 ∧ x = nI g ∧ ¬ y = -1 ∧ okAdd M g y ∧ M (28 + g) 1 = 6))) := by
  refine pMet.of (by decide) rfl rfl rfl (by intro v hv; simp only [List.mem_cons, List.not_mem_nil, or_false] at hv; rcases hv with rfl | rfl | rfl | rfl <;> rfl) (Nat.le_of_ble_eq_true rfl) ?_
  show PW _ _ _ _ _ 0 [some (.ref 0), some (.int x), some (.int y), some (.int z), none] [] (SM M ++ R) 0 0
  refine PW.iload_n (i := 1) dX4_group_0 rfl rfl ?_
  refine PW.if_lt (tgt := 13) dX4_group_1 (by decide) (fun h1 => ?_) (fun h1 => ?_)
  · refine PW.iconst (v := 0) dX4_group_13 (by decide) ?_
    refine PW.callS (k := kX4_group) (n := 1) (c_require false) dX4_group_14 gX4_group_X4_require rfl hs_X4_require rfl ⟨by decide, by decide⟩ ⟨rfl, rfl⟩ (Nat.le_of_ble_eq_true rfl) ⟨by decide, by decide⟩ rfl (fun _ _ hp => absurd hp.1 (by decide)) (fun E m9 hx => ?_)
    obtain ⟨-, rfl, rfl⟩ := hx
    exact PT.out rfl ⟨rfl, Or.inl ⟨rfl, Or.inl (fun q => q.1 h1)⟩⟩ (by decide) (by decide)
  · refine PW.iload_n (i := 1) dX4_group_4 rfl rfl ?_
    refine PW.iconst (v := 4) dX4_group_5 (by decide) ?_
    refine PW.icmp_ge (tgt := 13) dX4_group_6 (by decide) (fun h6 => ?_) (fun h6 => ?_)
    · refine PW.iconst (v := 0) dX4_group_13 (by decide) ?_
      refine PW.callS (k := kX4_group) (n := 1) (c_require false) dX4_group_14 gX4_group_X4_require rfl hs_X4_require rfl ⟨by decide, by decide⟩ ⟨rfl, rfl⟩ (Nat.le_of_ble_eq_true rfl) ⟨by decide, by decide⟩ rfl (fun _ _ hp => absurd hp.1 (by decide)) (fun E m9 hx => ?_)
      obtain ⟨-, rfl, rfl⟩ := hx
      exact PT.out rfl ⟨rfl, Or.inl ⟨rfl, Or.inl (fun q => q.2 h6)⟩⟩ (by decide) (by decide)
    · refine PW.iconst (v := 1) dX4_group_9 (by decide) ?_
      refine PW.goto (tgt := 14) dX4_group_10 (by decide) ?_
      refine PW.callS (k := kX4_group) (n := 1) (c_require true) dX4_group_14 gX4_group_X4_require rfl hs_X4_require rfl ⟨by decide, by decide⟩ ⟨rfl, rfl⟩ (Nat.le_of_ble_eq_true rfl) ⟨by decide, by decide⟩ rfl (fun v m9 hp => ?_) (fun _ _ hx => absurd hx.1 (by decide))
      obtain ⟨-, rfl, rfl⟩ := hp
      obtain ⟨g, hg, rfl⟩ := okPl_of ⟨h1, h6⟩
      refine PW.aload_n (i := 0) dX4_group_17 rfl rfl ?_
      refine PW.getf FX4_group_27 dX4_group_18 sm_desk rfl ?_
      refine PW.iload_n (i := 1) dX4_group_21 rfl rfl ?_
      refine PW.aald dX4_group_22 sm_grs (by decide) (fun _ => rfl) rfl rfl (Nat.lt_trans hg (by decide)) (grs_get _ hg) ?_
      refine PW.astore dX4_group_23 (by decide) rfl ?_
      refine PW.iload_n (i := 2) dX4_group_25 rfl rfl ?_
      refine PW.iconst (v := (-1)) dX4_group_26 (by decide) ?_
      refine PW.icmp_ne (tgt := 55) dX4_group_27 (by decide) (fun h27 => ?_) (fun h27 => ?_)
      · refine PW.iload_n (i := 2) dX4_group_55 rfl rfl ?_
        refine PW.callS (k := kX4_group) (n := 1) (c_isLine _) dX4_group_56 gX4_group_X4_isLine rfl hs_X4_isLine rfl ⟨by decide, by decide⟩ ⟨rfl, rfl⟩ (Nat.le_of_ble_eq_true rfl) ⟨by decide, by decide⟩ rfl (fun v m9 hp => ?_) (fun _ _ hx => hx.elim)
        obtain ⟨rfl, rfl⟩ := hp
        refine PW.if_eq (tgt := 75) dX4_group_59 (by decide) (fun h59 => ?_) (fun h59 => ?_)
        · refine PW.iconst (v := 0) dX4_group_75 (by decide) ?_
          refine PW.callS (k := kX4_group) (n := 1) (c_require false) dX4_group_76 gX4_group_X4_require rfl hs_X4_require rfl ⟨by decide, by decide⟩ ⟨rfl, rfl⟩ (Nat.le_of_ble_eq_true rfl) ⟨by decide, by decide⟩ rfl (fun _ _ hp => absurd hp.1 (by decide)) (fun E m9 hx => ?_)
          obtain ⟨-, rfl, rfl⟩ := hx
          exact PT.out rfl ⟨rfl, Or.inl ⟨rfl, Or.inr ⟨g, hg, rfl, Or.inr ⟨h27, fun q => by have := b2i_z h59; rw [q.1] at this; cases this⟩⟩⟩⟩ (by decide) (by decide)
        · refine PW.aload dX4_group_62 rfl ?_
          refine PW.iload_n (i := 2) dX4_group_64 rfl rfl ?_
          refine PW.callV (k := kX4_group) (n := 1) (c_has hg (hS.2.2 g hg).2.1 (hS.2.2 g hg).1 _) dX4_group_65 gX4_group_X1_has rfl hd_X1_has rfl ⟨by decide, by decide⟩ ⟨rfl, rfl⟩ (Nat.le_of_ble_eq_true rfl) ⟨by decide, by decide⟩ (sm_grp hg) (by decide) rfl rfl (fun v m9 hp => ?_) (fun _ _ hx => hx.elim)
          obtain ⟨rfl, rfl⟩ := hp
          refine PW.if_ne (tgt := 75) dX4_group_68 (by decide) (fun h68 => ?_) (fun h68 => ?_)
          · refine PW.iconst (v := 0) dX4_group_75 (by decide) ?_
            refine PW.callS (k := kX4_group) (n := 1) (c_require false) dX4_group_76 gX4_group_X4_require rfl hs_X4_require rfl ⟨by decide, by decide⟩ ⟨rfl, rfl⟩ (Nat.le_of_ble_eq_true rfl) ⟨by decide, by decide⟩ rfl (fun _ _ hp => absurd hp.1 (by decide)) (fun E m9 hx => ?_)
            obtain ⟨-, rfl, rfl⟩ := hx
            exact PT.out rfl ⟨rfl, Or.inl ⟨rfl, Or.inr ⟨g, hg, rfl, Or.inr ⟨h27, fun q => by have := b2i_t h68; rw [show hasL (M (32 + g)) y (grN M g) 0 = false from q.2] at this; cases this⟩⟩⟩⟩ (by decide) (by decide)
          · refine PW.iconst (v := 1) dX4_group_71 (by decide) ?_
            refine PW.goto (tgt := 76) dX4_group_72 (by decide) ?_
            refine PW.callS (k := kX4_group) (n := 1) (c_require true) dX4_group_76 gX4_group_X4_require rfl hs_X4_require rfl ⟨by decide, by decide⟩ ⟨rfl, rfl⟩ (Nat.le_of_ble_eq_true rfl) ⟨by decide, by decide⟩ rfl (fun v m9 hp => ?_) (fun _ _ hx => absurd hx.1 (by decide))
            obtain ⟨-, rfl, rfl⟩ := hp
            have hok : okAdd M g y := ⟨b2i_t h59, b2i_z h68⟩
            refine PW.aload dX4_group_79 rfl ?_
            refine PW.getf FX4_group_146 dX4_group_81 (sm_grp hg) rfl ?_
            refine PW.bipush (v := 6) dX4_group_84 (by decide) ?_
            refine PW.icmp_ne (tgt := 99) dX4_group_86 (by decide) (fun h86 => ?_) (fun h86 => ?_)
            · have hn6 : grN M g < 6 := by
                have h2 := (hS.2.2 g hg).2.1
                rcases Nat.lt_or_ge (grN M g) 6 with q | q
                · exact q
                · exact absurd (by rw [(hS.2.2 g hg).1, show grN M g = 6 by omega]; rfl) h86
              refine PW.aload dX4_group_99 rfl ?_
              refine PW.iload_n (i := 2) dX4_group_101 rfl rfl ?_
              refine PW.callV (k := kX4_group) (n := 1) (c_add hg hn6 (hS.2.2 g hg).1 _) dX4_group_102 gX4_group_X1_add rfl hd_X1_add rfl ⟨by decide, by decide⟩ ⟨rfl, rfl⟩ (Nat.le_of_ble_eq_true rfl) ⟨by decide, by decide⟩ (sm_grp hg) (by decide) rfl rfl (fun v m9 hp => ?_) (fun _ _ hx => hx.elim)
              obtain ⟨rfl, rfl⟩ := hp
              refine PW.aload dX4_group_105 rfl ?_
              refine PW.getf FX4_group_146 dX4_group_107 (sm_grp hg) rfl ?_
              exact PW.iret dX4_group_110 rfl (Or.inr ⟨g, hg, rfl, h27, hok, h86, rfl, rfl⟩) (by decide) (by decide)
            · exact PW.throwS (cls := "java/lang/IllegalStateException") (text := "the group is full") (names := ["java/lang/RuntimeException", "java/lang/Exception"]) (ik := 57) (is := 149) (ic := 61) (by decide +kernel) (by decide +kernel) (by decide +kernel) (by decide +kernel) (by decide +kernel) rfl (by decide +kernel) (fun _ h => List.mem_cons_of_mem _ (List.mem_append_left _ (List.mem_append_right _ h))) (by decide +kernel) (by decide +kernel) dX4_group_89 dX4_group_92 dX4_group_93 dX4_group_95 dX4_group_98 rfl (by decide) (Nat.le_of_ble_eq_true rfl) (by decide) (by decide) (by decide) (by decide) ⟨rfl, Or.inr ⟨rfl, g, hg, rfl, h27, hok, h86⟩⟩
      · refine PW.iload_n (i := 3) dX4_group_30 rfl rfl ?_
        refine PW.if_lt (tgt := 43) dX4_group_31 (by decide) (fun h31 => ?_) (fun h31 => ?_)
        · refine PW.iconst (v := 0) dX4_group_43 (by decide) ?_
          refine PW.callS (k := kX4_group) (n := 1) (c_require false) dX4_group_44 gX4_group_X4_require rfl hs_X4_require rfl ⟨by decide, by decide⟩ ⟨rfl, rfl⟩ (Nat.le_of_ble_eq_true rfl) ⟨by decide, by decide⟩ rfl (fun _ _ hp => absurd hp.1 (by decide)) (fun E m9 hx => ?_)
          obtain ⟨-, rfl, rfl⟩ := hx
          exact PT.out rfl ⟨rfl, Or.inl ⟨rfl, Or.inr ⟨g, hg, rfl, Or.inl ⟨h27, fun q => q.1 h31⟩⟩⟩⟩ (by decide) (by decide)
        · refine PW.iload_n (i := 3) dX4_group_34 rfl rfl ?_
          refine PW.iconst (v := 3) dX4_group_35 (by decide) ?_
          refine PW.icmp_gt (tgt := 43) dX4_group_36 (by decide) (fun h36 => ?_) (fun h36 => ?_)
          · refine PW.iconst (v := 0) dX4_group_43 (by decide) ?_
            refine PW.callS (k := kX4_group) (n := 1) (c_require false) dX4_group_44 gX4_group_X4_require rfl hs_X4_require rfl ⟨by decide, by decide⟩ ⟨rfl, rfl⟩ (Nat.le_of_ble_eq_true rfl) ⟨by decide, by decide⟩ rfl (fun _ _ hp => absurd hp.1 (by decide)) (fun E m9 hx => ?_)
            obtain ⟨-, rfl, rfl⟩ := hx
            exact PT.out rfl ⟨rfl, Or.inl ⟨rfl, Or.inr ⟨g, hg, rfl, Or.inl ⟨h27, fun q => q.2 h36⟩⟩⟩⟩ (by decide) (by decide)
          · refine PW.iconst (v := 1) dX4_group_39 (by decide) ?_
            refine PW.goto (tgt := 44) dX4_group_40 (by decide) ?_
            refine PW.callS (k := kX4_group) (n := 1) (c_require true) dX4_group_44 gX4_group_X4_require rfl hs_X4_require rfl ⟨by decide, by decide⟩ ⟨rfl, rfl⟩ (Nat.le_of_ble_eq_true rfl) ⟨by decide, by decide⟩ rfl (fun v m9 hp => ?_) (fun _ _ hx => absurd hx.1 (by decide))
            obtain ⟨-, rfl, rfl⟩ := hp
            refine PW.aload dX4_group_47 rfl ?_
            refine PW.iload_n (i := 3) dX4_group_49 rfl rfl ?_
            refine PW.callV (k := kX4_group) (n := 1) (c_restart hg _) dX4_group_50 gX4_group_X1_restart rfl hd_X1_restart rfl ⟨by decide, by decide⟩ ⟨rfl, rfl⟩ (Nat.le_of_ble_eq_true rfl) ⟨by decide, by decide⟩ (sm_grp hg) (by decide) rfl rfl (fun v m9 hp => ?_) (fun _ _ hx => hx.elim)
            obtain ⟨rfl, rfl⟩ := hp
            refine PW.iconst (v := 0) dX4_group_53 (by decide) ?_
            exact PW.iret dX4_group_54 rfl (Or.inl ⟨g, hg, rfl, h27, ⟨h31, h36⟩, rfl, rfl⟩) (by decide) (by decide)
theorem isSlot_of {x y : Int32} (h : f_isSlot x y = true) : ∃ u t, u < 4 ∧ t < 8 ∧ x = nI u ∧ y = nI t := by
  have h1 := of_decide_eq_true h
  rcases pk_ix x (n := 4) (by decide) with h2 | h2 | ⟨u, hu, rfl⟩
  · exact absurd h2 h1.1
  · exact absurd h2 h1.2.1
  · rcases pk_ix y (n := 8) (by decide) with h2 | h2 | ⟨t, ht, rfl⟩
    · exact absurd h2 h1.2.2.1
    · exact absurd h2 h1.2.2.2
    · exact ⟨u, t, hu, ht, rfl, rfl⟩
def f_slot (M : dM) (u t : Nat) (z : Int32) : dM := up2 M (24 + u) t (if z = 0 then -2 else -1)
set_option maxRecDepth 100000 in
set_option maxHeartbeats 4000000 in
theorem c_slot {M : dM} {R : pM} (x y z : Int32) (l9 : Launch) : pMet l9 yX4_slot kX4_slot false [.ref 0, .int x, .int y, .int z] (SM M ++ R) (fun v m9 => ∃ u t, u < 4 ∧ t < 8 ∧ x = nI u ∧ y = nI t ∧ M (24 + u) t < 0 ∧ v = none ∧ m9 = SM (f_slot M u t z) ++ R) (fun E m9 => m9 = SM M ++ R ∧ ((E = "java/lang/IllegalArgumentException" ∧ f_isSlot x y = false) ∨ (E = "java/lang/IllegalStateException" ∧ ∃ u t, u < 4 ∧ t < 8 ∧ x = nI u ∧ y = nI t ∧ ¬ M (24 + u) t < 0))) := by
  refine pMet.of (by decide) rfl rfl rfl (by intro v hv; simp only [List.mem_cons, List.not_mem_nil, or_false] at hv; rcases hv with rfl | rfl | rfl | rfl <;> rfl) (Nat.le_of_ble_eq_true rfl) ?_
  show PW _ _ _ _ _ 0 [some (.ref 0), some (.int x), some (.int y), some (.int z)] [] (SM M ++ R) 0 0
  refine PW.iload_n (i := 1) dX4_slot_0 rfl rfl ?_
  refine PW.iload_n (i := 2) dX4_slot_1 rfl rfl ?_
  refine PW.callS (k := kX4_slot) (n := 2) (c_isSlot _ _) dX4_slot_2 gX4_slot_X4_isSlot rfl hs_X4_isSlot rfl ⟨by decide, by decide⟩ ⟨rfl, rfl⟩ (Nat.le_of_ble_eq_true rfl) ⟨by decide, by decide⟩ rfl (fun v m9 hp => ?_) (fun _ _ hx => hx.elim)
  obtain ⟨rfl, rfl⟩ := hp
  refine PW.callS (k := kX4_slot) (n := 1) (c_require (f_isSlot x y)) dX4_slot_5 gX4_slot_X4_require rfl hs_X4_require rfl ⟨by decide, by decide⟩ ⟨rfl, rfl⟩ (Nat.le_of_ble_eq_true rfl) ⟨by decide, by decide⟩ rfl (fun v m9 hp => ?_) (fun E m9 hx => ?_)
  rotate_left
  · obtain ⟨hx, rfl, rfl⟩ := hx
    exact PT.out rfl ⟨rfl, Or.inl ⟨rfl, hx⟩⟩ (by decide) (by decide)
  obtain ⟨hok, rfl, rfl⟩ := hp
  obtain ⟨u, t, hu, ht, rfl, rfl⟩ := isSlot_of hok
  refine PW.aload_n (i := 0) dX4_slot_8 rfl rfl ?_
  refine PW.getf FX4_slot_21 dX4_slot_9 sm_desk rfl ?_
  refine PW.getf FX4_slot_158 dX4_slot_12 sm_sw rfl ?_
  refine PW.iload_n (i := 1) dX4_slot_15 rfl rfl ?_
  refine PW.aald dX4_slot_16 sm_car (by decide) (fun _ => rfl) rfl rfl (Nat.lt_trans hu (by decide)) (car_get _ hu) ?_
  refine PW.iload_n (i := 2) dX4_slot_17 rfl rfl ?_
  refine PW.iald dX4_slot_18 (sm_row hu) rfl (by omega) (iaF_get ht) ?_
  refine PW.if_lt (tgt := 32) dX4_slot_19 (by decide) (fun h19 => ?_) (fun h19 => ?_)
  · refine PW.aload_n (i := 0) dX4_slot_32 rfl rfl ?_
    refine PW.getf FX4_slot_21 dX4_slot_33 sm_desk rfl ?_
    refine PW.getf FX4_slot_158 dX4_slot_36 sm_sw rfl ?_
    refine PW.iload_n (i := 1) dX4_slot_39 rfl rfl ?_
    refine PW.aald dX4_slot_40 sm_car (by decide) (fun _ => rfl) rfl rfl (Nat.lt_trans hu (by decide)) (car_get _ hu) ?_
    refine PW.iload_n (i := 2) dX4_slot_41 rfl rfl ?_
    refine PW.iload_n (i := 3) dX4_slot_42 rfl rfl ?_
    refine PW.if_eq (tgt := 50) dX4_slot_43 (by decide) (fun h43 => ?_) (fun h43 => ?_)
    · refine PW.bipush (v := (-2)) dX4_slot_50 (by decide) ?_
      refine PW.iast dX4_slot_52 (sm_row hu) rfl (by omega) (by rw [iaF_len]; exact ht) (pu_row hu) ?_
      exact PW.vret dX4_slot_53 rfl ⟨u, t, hu, ht, rfl, rfl, h19, rfl, by rw [f_slot]; first | rw [if_pos h43] | rw [if_neg h43]⟩ (by decide) (by decide)
    · refine PW.iconst (v := (-1)) dX4_slot_46 (by decide) ?_
      refine PW.goto (tgt := 52) dX4_slot_47 (by decide) ?_
      refine PW.iast dX4_slot_52 (sm_row hu) rfl (by omega) (by rw [iaF_len]; exact ht) (pu_row hu) ?_
      exact PW.vret dX4_slot_53 rfl ⟨u, t, hu, ht, rfl, rfl, h19, rfl, by rw [f_slot]; first | rw [if_pos h43] | rw [if_neg h43]⟩ (by decide) (by decide)
  · exact PW.throwS (cls := "java/lang/IllegalStateException") (text := "the slot is in use") (names := ["java/lang/RuntimeException", "java/lang/Exception"]) (ik := 57) (is := 162) (ic := 61) (by decide +kernel) (by decide +kernel) (by decide +kernel) (by decide +kernel) (by decide +kernel) rfl (by decide +kernel) (fun _ h => List.mem_cons_of_mem _ (List.mem_append_left _ (List.mem_append_right _ h))) (by decide +kernel) (by decide +kernel) dX4_slot_22 dX4_slot_25 dX4_slot_26 dX4_slot_28 dX4_slot_31 rfl (by decide) (Nat.le_of_ble_eq_true rfl) (by decide) (by decide) (by decide) (by decide) ⟨rfl, Or.inr ⟨rfl, u, t, hu, ht, rfl, rfl, h19⟩⟩
set_option maxRecDepth 100000 in
set_option maxHeartbeats 4000000 in
theorem c_carries {M : dM} {R : pM} (x y : Int32) (l9 : Launch) : pMet l9 yX4_carries kX4_carries false [.ref 0, .int x, .int y] (SM M ++ R) (fun v m9 => ∃ u t, u < 4 ∧ t < 8 ∧ x = nI u ∧ y = nI t ∧ v = some (.int (M (24 + u) t)) ∧ m9 = SM M ++ R) (fun E m9 => m9 = SM M ++ R ∧ ((E = "java/lang/IllegalArgumentException" ∧ f_isSlot x y = false) ∨ (E = "java/lang/IllegalStateException" ∧ False))) := by
  refine pMet.of (by decide) rfl rfl rfl (by intro v hv; simp only [List.mem_cons, List.not_mem_nil, or_false] at hv; rcases hv with rfl | rfl | rfl <;> rfl) (Nat.le_of_ble_eq_true rfl) ?_
  show PW _ _ _ _ _ 0 [some (.ref 0), some (.int x), some (.int y)] [] (SM M ++ R) 0 0
  refine PW.iload_n (i := 1) dX4_carries_0 rfl rfl ?_
  refine PW.iload_n (i := 2) dX4_carries_1 rfl rfl ?_
  refine PW.callS (k := kX4_carries) (n := 2) (c_isSlot _ _) dX4_carries_2 gX4_carries_X4_isSlot rfl hs_X4_isSlot rfl ⟨by decide, by decide⟩ ⟨rfl, rfl⟩ (Nat.le_of_ble_eq_true rfl) ⟨by decide, by decide⟩ rfl (fun v m9 hp => ?_) (fun _ _ hx => hx.elim)
  obtain ⟨rfl, rfl⟩ := hp
  refine PW.callS (k := kX4_carries) (n := 1) (c_require (f_isSlot x y)) dX4_carries_5 gX4_carries_X4_require rfl hs_X4_require rfl ⟨by decide, by decide⟩ ⟨rfl, rfl⟩ (Nat.le_of_ble_eq_true rfl) ⟨by decide, by decide⟩ rfl (fun v m9 hp => ?_) (fun E m9 hx => ?_)
  rotate_left
  · obtain ⟨hx, rfl, rfl⟩ := hx
    exact PT.out rfl ⟨rfl, Or.inl ⟨rfl, hx⟩⟩ (by decide) (by decide)
  obtain ⟨hok, rfl, rfl⟩ := hp
  obtain ⟨u, t, hu, ht, rfl, rfl⟩ := isSlot_of hok
  refine PW.aload_n (i := 0) dX4_carries_8 rfl rfl ?_
  refine PW.getf FX4_carries_21 dX4_carries_9 sm_desk rfl ?_
  refine PW.getf FX4_carries_158 dX4_carries_12 sm_sw rfl ?_
  refine PW.iload_n (i := 1) dX4_carries_15 rfl rfl ?_
  refine PW.aald dX4_carries_16 sm_car (by decide) (fun _ => rfl) rfl rfl (Nat.lt_trans hu (by decide)) (car_get _ hu) ?_
  refine PW.iload_n (i := 2) dX4_carries_17 rfl rfl ?_
  refine PW.iald dX4_carries_18 (sm_row hu) rfl (by omega) (iaF_get ht) ?_
  exact PW.iret dX4_carries_19 rfl ⟨u, t, hu, ht, rfl, rfl, rfl, rfl⟩ (by decide) (by decide)
def okW (y : Int32) : Prop := ¬ y < 0 ∧ ¬ 5 < y
theorem okW_of {y : Int32} (h : okW y) : ∃ w, w < 6 ∧ y = nI w := by
  obtain ⟨j, -, h2, h3⟩ := rng (a := 0) (b := 6) (by decide) (by decide) h.1 (fun q => h.2 (by
    have q2 : (6 : Int32).toInt ≤ y.toInt := Int32.le_iff_toInt_le.mp q
    have e1 : (6 : Int32).toInt = 6 := by decide
    have e2 : (5 : Int32).toInt = 5 := by decide
    exact Int32.lt_iff_toInt_lt.mpr (by omega)))
  exact ⟨j, h2, h3⟩
def f_line (M : dM) (l w : Nat) : Int32 :=
  if w = 0 then M l 1 else if w = 1 then (if M l 1 = 3 then f_lowR M (nI l) else M l 3) else if w = 2 then f_slotOf M l
  else if w = 3 then (if M l 7 = 0 then M l 8 else M l 8 + f_units M l) else if w = 4 then (if M l 9 = 0 then 0 else 1) else M l 10
set_option maxRecDepth 100000 in
set_option maxHeartbeats 4000000 in
theorem c_line {M : dM} {R : pM} (x y : Int32) (l9 : Launch) : pMet l9 yX4_line kX4_line false [.ref 0, .int x, .int y] (SM M ++ R) (fun v m9 => ∃ l w, l < 24 ∧ w < 6 ∧ x = nI l ∧ y = nI w ∧ v = some (.int (f_line M l w)) ∧ m9 = SM M ++ R) (fun E m9 => m9 = SM M ++ R ∧ ((E = "java/lang/IllegalArgumentException" ∧ (f_isLine x = false ∨ ¬ okW y)) ∨ (E = "java/lang/IllegalStateException" ∧ False))) := by
  refine pMet.of (by decide) rfl rfl rfl (by intro v hv; simp only [List.mem_cons, List.not_mem_nil, or_false] at hv; rcases hv with rfl | rfl | rfl <;> rfl) (Nat.le_of_ble_eq_true rfl) ?_
  show PW _ _ _ _ _ 0 [some (.ref 0), some (.int x), some (.int y), none] [] (SM M ++ R) 0 0
  refine PW.aload_n (i := 0) dX4_line_0 rfl rfl ?_
  refine PW.iload_n (i := 1) dX4_line_1 rfl rfl ?_
  refine PW.callV (k := kX4_line) (n := 1) (c_lineOf x) dX4_line_2 gX4_line_X4_lineOf rfl hd_X4_lineOf rfl ⟨by decide, by decide⟩ ⟨rfl, rfl⟩ (Nat.le_of_ble_eq_true rfl) ⟨by decide, by decide⟩ sm_desk (by decide) rfl rfl (fun v m9 hp => ?_) (fun E m9 hx => ?_)
  rotate_left
  · obtain ⟨hx, rfl, rfl⟩ := hx
    exact PT.out rfl ⟨rfl, Or.inl ⟨rfl, Or.inl hx⟩⟩ (by decide) (by decide)
  obtain ⟨l, hl, rfl, rfl, rfl⟩ := hp
  refine PW.astore_n (i := 3) dX4_line_5 rfl (by decide) rfl ?_
  refine PW.iload_n (i := 2) dX4_line_6 rfl rfl ?_
  refine PW.if_lt (tgt := 19) dX4_line_7 (by decide) (fun h7 => ?_) (fun h7 => ?_)
  · refine PW.iconst (v := 0) dX4_line_19 (by decide) ?_
    refine PW.callS (k := kX4_line) (n := 1) (c_require false) dX4_line_20 gX4_line_X4_require rfl hs_X4_require rfl ⟨by decide, by decide⟩ ⟨rfl, rfl⟩ (Nat.le_of_ble_eq_true rfl) ⟨by decide, by decide⟩ rfl (fun _ _ hp => absurd hp.1 (by decide)) (fun E m9 hx => ?_)
    obtain ⟨-, rfl, rfl⟩ := hx
    exact PT.out rfl ⟨rfl, Or.inl ⟨rfl, Or.inr (fun q => q.1 h7)⟩⟩ (by decide) (by decide)
  · refine PW.iload_n (i := 2) dX4_line_10 rfl rfl ?_
    refine PW.iconst (v := 5) dX4_line_11 (by decide) ?_
    refine PW.icmp_gt (tgt := 19) dX4_line_12 (by decide) (fun h12 => ?_) (fun h12 => ?_)
    · refine PW.iconst (v := 0) dX4_line_19 (by decide) ?_
      refine PW.callS (k := kX4_line) (n := 1) (c_require false) dX4_line_20 gX4_line_X4_require rfl hs_X4_require rfl ⟨by decide, by decide⟩ ⟨rfl, rfl⟩ (Nat.le_of_ble_eq_true rfl) ⟨by decide, by decide⟩ rfl (fun _ _ hp => absurd hp.1 (by decide)) (fun E m9 hx => ?_)
      obtain ⟨-, rfl, rfl⟩ := hx
      exact PT.out rfl ⟨rfl, Or.inl ⟨rfl, Or.inr (fun q => q.2 h12)⟩⟩ (by decide) (by decide)
    · refine PW.iconst (v := 1) dX4_line_15 (by decide) ?_
      refine PW.goto (tgt := 20) dX4_line_16 (by decide) ?_
      refine PW.callS (k := kX4_line) (n := 1) (c_require true) dX4_line_20 gX4_line_X4_require rfl hs_X4_require rfl ⟨by decide, by decide⟩ ⟨rfl, rfl⟩ (Nat.le_of_ble_eq_true rfl) ⟨by decide, by decide⟩ rfl (fun v m9 hp => ?_) (fun _ _ hx => absurd hx.1 (by decide))
      obtain ⟨-, rfl, rfl⟩ := hp
      refine PW.iload_n (i := 2) dX4_line_23 rfl rfl ?_
      obtain ⟨w, hw6, rfl⟩ := okW_of ⟨h7, h12⟩
      rcases (show w = 0 ∨ w = 1 ∨ w = 2 ∨ w = 3 ∨ w = 4 ∨ w = 5 by omega) with rfl | rfl | rfl | rfl | rfl | rfl
      · refine PW.tableIn (off := 36) (tgt := 60) dX4_line_24 (by decide) (by decide) (by decide) (by decide) ?_
        refine PW.aload_n (i := 3) dX4_line_60 rfl rfl ?_
        refine PW.getf FX4_line_64 dX4_line_61 (sm_line hl) rfl ?_
        exact PW.iret dX4_line_64 rfl ⟨l, 0, hl, by decide, rfl, rfl, rfl, rfl⟩ (by decide) (by decide)
      · refine PW.tableIn (off := 41) (tgt := 65) dX4_line_24 (by decide) (by decide) (by decide) (by decide) ?_
        refine PW.aload_n (i := 3) dX4_line_65 rfl rfl ?_
        refine PW.getf FX4_line_64 dX4_line_66 (sm_line hl) rfl ?_
        refine PW.iconst (v := 3) dX4_line_69 (by decide) ?_
        refine PW.icmp_ne (tgt := 81) dX4_line_70 (by decide) (fun h70 => ?_) (fun h70 => ?_)
        · refine PW.aload_n (i := 3) dX4_line_81 rfl rfl ?_
          refine PW.getf FX4_line_106 dX4_line_82 (sm_line hl) rfl ?_
          exact PW.iret dX4_line_85 rfl ⟨l, 1, hl, by decide, rfl, rfl, by first | (show some (Value.int (M l 3)) = some (.int (if M l 1 = 3 then _ else _)); rw [if_neg h70]) | (show some (Value.int _) = some (.int (if M l 1 = 3 then _ else _)); rw [if_pos h70]), rfl⟩ (by decide) (by decide)
        · refine PW.aload_n (i := 0) dX4_line_73 rfl rfl ?_
          refine PW.iload_n (i := 1) dX4_line_74 rfl rfl ?_
          refine PW.callV (k := kX4_line) (n := 1) (c_lowestRinging _) dX4_line_75 gX4_line_X4_lowestRinging rfl hd_X4_lowestRinging rfl ⟨by decide, by decide⟩ ⟨rfl, rfl⟩ (Nat.le_of_ble_eq_true rfl) ⟨by decide, by decide⟩ sm_desk (by decide) rfl rfl (fun v m9 hp => ?_) (fun _ _ hx => hx.elim)
          obtain ⟨rfl, rfl⟩ := hp
          refine PW.goto (tgt := 85) dX4_line_78 (by decide) ?_
          exact PW.iret dX4_line_85 rfl ⟨l, 1, hl, by decide, rfl, rfl, by first | (show some (Value.int (M l 3)) = some (.int (if M l 1 = 3 then _ else _)); rw [if_neg h70]) | (show some (Value.int _) = some (.int (if M l 1 = 3 then _ else _)); rw [if_pos h70]), rfl⟩ (by decide) (by decide)
      · refine PW.tableIn (off := 62) (tgt := 86) dX4_line_24 (by decide) (by decide) (by decide) (by decide) ?_
        refine PW.aload_n (i := 0) dX4_line_86 rfl rfl ?_
        refine PW.aload_n (i := 3) dX4_line_87 rfl rfl ?_
        refine PW.callV (k := kX4_line) (n := 1) (c_slotOf hl) dX4_line_88 gX4_line_X4_slotOf rfl hd_X4_slotOf rfl ⟨by decide, by decide⟩ ⟨rfl, rfl⟩ (Nat.le_of_ble_eq_true rfl) ⟨by decide, by decide⟩ sm_desk (by decide) rfl rfl (fun v m9 hp => ?_) (fun _ _ hx => hx.elim)
        obtain ⟨rfl, rfl⟩ := hp
        exact PW.iret dX4_line_91 rfl ⟨l, 2, hl, by decide, rfl, rfl, rfl, rfl⟩ (by decide) (by decide)
      · refine PW.tableIn (off := 68) (tgt := 92) dX4_line_24 (by decide) (by decide) (by decide) (by decide) ?_
        refine PW.aload_n (i := 3) dX4_line_92 rfl rfl ?_
        refine PW.getf FX4_line_172 dX4_line_93 (sm_line hl) rfl ?_
        refine PW.if_eq (tgt := 112) dX4_line_96 (by decide) (fun h96 => ?_) (fun h96 => ?_)
        · refine PW.aload_n (i := 3) dX4_line_112 rfl rfl ?_
          refine PW.getf FX4_line_176 dX4_line_113 (sm_line hl) rfl ?_
          exact PW.iret dX4_line_116 rfl ⟨l, 3, hl, by decide, rfl, rfl, by show some (Value.int _) = some (.int (if M l 7 = 0 then _ else _)); first | rw [if_pos h96] | rw [if_neg h96], rfl⟩ (by decide) (by decide)
        · refine PW.aload_n (i := 3) dX4_line_99 rfl rfl ?_
          refine PW.getf FX4_line_176 dX4_line_100 (sm_line hl) rfl ?_
          refine PW.aload_n (i := 0) dX4_line_103 rfl rfl ?_
          refine PW.aload_n (i := 3) dX4_line_104 rfl rfl ?_
          refine PW.callV (k := kX4_line) (n := 1) (c_unitsOf hl) dX4_line_105 gX4_line_X4_unitsOf rfl hd_X4_unitsOf rfl ⟨by decide, by decide⟩ ⟨rfl, rfl⟩ (Nat.le_of_ble_eq_true rfl) ⟨by decide, by decide⟩ sm_desk (by decide) rfl rfl (fun v m9 hp => ?_) (fun _ _ hx => hx.elim)
          obtain ⟨rfl, rfl⟩ := hp
          refine PW.iadd dX4_line_108 ?_
          refine PW.goto (tgt := 116) dX4_line_109 (by decide) ?_
          exact PW.iret dX4_line_116 rfl ⟨l, 3, hl, by decide, rfl, rfl, by show some (Value.int _) = some (.int (if M l 7 = 0 then _ else _)); first | rw [if_pos h96] | rw [if_neg h96], rfl⟩ (by decide) (by decide)
      · refine PW.tableIn (off := 93) (tgt := 117) dX4_line_24 (by decide) (by decide) (by decide) (by decide) ?_
        refine PW.aload_n (i := 3) dX4_line_117 rfl rfl ?_
        refine PW.getf FX4_line_182 dX4_line_118 (sm_line hl) rfl ?_
        refine PW.if_eq (tgt := 128) dX4_line_121 (by decide) (fun h121 => ?_) (fun h121 => ?_)
        · refine PW.iconst (v := 0) dX4_line_128 (by decide) ?_
          exact PW.iret dX4_line_129 rfl ⟨l, 4, hl, by decide, rfl, rfl, by show some (Value.int _) = some (.int (if M l 9 = 0 then _ else _)); first | rw [if_pos h121] | rw [if_neg h121], rfl⟩ (by decide) (by decide)
        · refine PW.iconst (v := 1) dX4_line_124 (by decide) ?_
          refine PW.goto (tgt := 129) dX4_line_125 (by decide) ?_
          exact PW.iret dX4_line_129 rfl ⟨l, 4, hl, by decide, rfl, rfl, by show some (Value.int _) = some (.int (if M l 9 = 0 then _ else _)); first | rw [if_pos h121] | rw [if_neg h121], rfl⟩ (by decide) (by decide)
      · refine PW.tableOut (tgt := 130) dX4_line_24 (by decide) (by decide) ?_
        refine PW.aload_n (i := 3) dX4_line_130 rfl rfl ?_
        refine PW.getf FX4_line_101 dX4_line_131 (sm_line hl) rfl ?_
        exact PW.iret dX4_line_134 rfl ⟨l, 5, hl, by decide, rfl, rfl, rfl, rfl⟩ (by decide) (by decide)
def okQ (x : Int32) : Prop := ¬ x < 0 ∧ ¬ 2 < x
def f_count (M : dM) (x : Int32) : Int32 := if x = 0 then M 39 6 else if x = 1 then M 37 1 else cntU M 4 0 0
set_option maxRecDepth 100000 in
set_option maxHeartbeats 4000000 in
theorem c_count {M : dM} {R : pM} (x : Int32) (l9 : Launch) : pMet l9 yX4_count kX4_count false [.ref 0, .int x] (SM M ++ R) (fun v m9 => okQ x ∧ v = some (.int (f_count M x)) ∧ m9 = SM M ++ R) (fun E m9 => m9 = SM M ++ R ∧ ((E = "java/lang/IllegalArgumentException" ∧ ¬ okQ x) ∨ (E = "java/lang/IllegalStateException" ∧ False))) := by
  refine pMet.of (by decide) rfl rfl rfl (by intro v hv; simp only [List.mem_cons, List.not_mem_nil, or_false] at hv; rcases hv with rfl | rfl <;> rfl) (Nat.le_of_ble_eq_true rfl) ?_
  show PW _ _ _ _ _ 0 [some (.ref 0), some (.int x)] [] (SM M ++ R) 0 0
  refine PW.iload_n (i := 1) dX4_count_0 rfl rfl ?_
  refine PW.if_lt (tgt := 13) dX4_count_1 (by decide) (fun h1 => ?_) (fun h1 => ?_)
  · refine PW.iconst (v := 0) dX4_count_13 (by decide) ?_
    refine PW.callS (k := kX4_count) (n := 1) (c_require false) dX4_count_14 gX4_count_X4_require rfl hs_X4_require rfl ⟨by decide, by decide⟩ ⟨rfl, rfl⟩ (Nat.le_of_ble_eq_true rfl) ⟨by decide, by decide⟩ rfl (fun _ _ hp => absurd hp.1 (by decide)) (fun E m9 hx => ?_)
    obtain ⟨-, rfl, rfl⟩ := hx
    exact PT.out rfl ⟨rfl, Or.inl ⟨rfl, fun q => q.1 h1⟩⟩ (by decide) (by decide)
  · refine PW.iload_n (i := 1) dX4_count_4 rfl rfl ?_
    refine PW.iconst (v := 2) dX4_count_5 (by decide) ?_
    refine PW.icmp_gt (tgt := 13) dX4_count_6 (by decide) (fun h6 => ?_) (fun h6 => ?_)
    · refine PW.iconst (v := 0) dX4_count_13 (by decide) ?_
      refine PW.callS (k := kX4_count) (n := 1) (c_require false) dX4_count_14 gX4_count_X4_require rfl hs_X4_require rfl ⟨by decide, by decide⟩ ⟨rfl, rfl⟩ (Nat.le_of_ble_eq_true rfl) ⟨by decide, by decide⟩ rfl (fun _ _ hp => absurd hp.1 (by decide)) (fun E m9 hx => ?_)
      obtain ⟨-, rfl, rfl⟩ := hx
      exact PT.out rfl ⟨rfl, Or.inl ⟨rfl, fun q => q.2 h6⟩⟩ (by decide) (by decide)
    · refine PW.iconst (v := 1) dX4_count_9 (by decide) ?_
      refine PW.goto (tgt := 14) dX4_count_10 (by decide) ?_
      refine PW.callS (k := kX4_count) (n := 1) (c_require true) dX4_count_14 gX4_count_X4_require rfl hs_X4_require rfl ⟨by decide, by decide⟩ ⟨rfl, rfl⟩ (Nat.le_of_ble_eq_true rfl) ⟨by decide, by decide⟩ rfl (fun v m9 hp => ?_) (fun _ _ hx => absurd hx.1 (by decide))
      obtain ⟨-, rfl, rfl⟩ := hp
      refine PW.iload_n (i := 1) dX4_count_17 rfl rfl ?_
      refine PW.if_ne (tgt := 26) dX4_count_18 (by decide) (fun h18 => ?_) (fun h18 => ?_)
      · refine PW.iload_n (i := 1) dX4_count_26 rfl rfl ?_
        refine PW.iconst (v := 1) dX4_count_27 (by decide) ?_
        refine PW.icmp_ne (tgt := 41) dX4_count_28 (by decide) (fun h28 => ?_) (fun h28 => ?_)
        · refine PW.aload_n (i := 0) dX4_count_41 rfl rfl ?_
          refine PW.getf FX4_count_21 dX4_count_42 sm_desk rfl ?_
          refine PW.callV (k := kX4_count) (n := 0) (c_slotsInUse) dX4_count_45 gX4_count_X3_slotsInUse rfl hd_X3_slotsInUse rfl ⟨by decide, by decide⟩ ⟨rfl, rfl⟩ (Nat.le_of_ble_eq_true rfl) ⟨by decide, by decide⟩ sm_sw (by decide) rfl rfl (fun v m9 hp => ?_) (fun _ _ hx => hx.elim)
          obtain ⟨rfl, rfl⟩ := hp
          exact PW.iret dX4_count_48 rfl ⟨⟨h1, h6⟩, by rw [f_count]; first | rw [if_pos h18] | rw [if_neg h18, if_pos h28] | rw [if_neg h18, if_neg h28], rfl⟩ (by decide) (by decide)
        · refine PW.aload_n (i := 0) dX4_count_31 rfl rfl ?_
          refine PW.getf FX4_count_45 dX4_count_32 sm_desk rfl ?_
          refine PW.getf FX4_count_188 dX4_count_35 sm_book rfl ?_
          refine PW.goto (tgt := 48) dX4_count_38 (by decide) ?_
          exact PW.iret dX4_count_48 rfl ⟨⟨h1, h6⟩, by rw [f_count]; first | rw [if_pos h18] | rw [if_neg h18, if_pos h28] | rw [if_neg h18, if_neg h28], rfl⟩ (by decide) (by decide)
      · refine PW.aload_n (i := 0) dX4_count_21 rfl rfl ?_
        refine PW.getf FX4_count_185 dX4_count_22 sm_desk rfl ?_
        exact PW.iret dX4_count_25 rfl ⟨⟨h1, h6⟩, by rw [f_count]; first | rw [if_pos h18] | rw [if_neg h18, if_pos h28] | rw [if_neg h18, if_neg h28], rfl⟩ (by decide) (by decide)
theorem keeps_of {M : dM} {x : Int32} (hw : M 37 1 = nI (wr M) ∧ wr M < 100000) (h : f_keeps M x = true) : ∃ q, q < wr M ∧ x = nI q := by
  have h1 := of_decide_eq_true h
  obtain ⟨j, -, h2, h3⟩ := rng (a := 0) (b := wr M) (by decide) (by omega) h1.1 (by rw [← hw.1]; exact h1.2.1)
  exact ⟨j, h2, h3⟩
set_option maxRecDepth 100000 in
set_option maxHeartbeats 4000000 in
theorem c_book {M : dM} {R : pM} (hw : M 37 1 = nI (wr M) ∧ wr M < 100000) (x y : Int32) (l9 : Launch) : pMet l9 yX4_book kX4_book false [.ref 0, .int x, .int y] (SM M ++ R) (fun v m9 => ∃ q p, q < wr M ∧ p < 4 ∧ x = nI q ∧ y = nI p ∧ f_keeps M x = true ∧ v = some (.int (M 38 (q % 60 * 4 + p))) ∧ m9 = SM M ++ R) (fun E m9 => m9 = SM M ++ R ∧ ((E = "java/lang/IllegalArgumentException" ∧ ¬ okPl y) ∨ (E = "java/lang/IndexOutOfBoundsException" ∧ okPl y ∧ f_keeps M x = false))) := by
  refine pMet.of (by decide) rfl rfl rfl (by intro v hv; simp only [List.mem_cons, List.not_mem_nil, or_false] at hv; rcases hv with rfl | rfl | rfl <;> rfl) (Nat.le_of_ble_eq_true rfl) ?_
  show PW _ _ _ _ _ 0 [some (.ref 0), some (.int x), some (.int y)] [] (SM M ++ R) 0 0
  refine PW.iload_n (i := 2) dX4_book_0 rfl rfl ?_
  refine PW.if_lt (tgt := 13) dX4_book_1 (by decide) (fun h1 => ?_) (fun h1 => ?_)
  · refine PW.iconst (v := 0) dX4_book_13 (by decide) ?_
    refine PW.callS (k := kX4_book) (n := 1) (c_require false) dX4_book_14 gX4_book_X4_require rfl hs_X4_require rfl ⟨by decide, by decide⟩ ⟨rfl, rfl⟩ (Nat.le_of_ble_eq_true rfl) ⟨by decide, by decide⟩ rfl (fun _ _ hp => absurd hp.1 (by decide)) (fun E m9 hx => ?_)
    obtain ⟨-, rfl, rfl⟩ := hx
    exact PT.out rfl ⟨rfl, Or.inl ⟨rfl, fun q => q.1 h1⟩⟩ (by decide) (by decide)
  · refine PW.iload_n (i := 2) dX4_book_4 rfl rfl ?_
    refine PW.iconst (v := 4) dX4_book_5 (by decide) ?_
    refine PW.icmp_ge (tgt := 13) dX4_book_6 (by decide) (fun h6 => ?_) (fun h6 => ?_)
    · refine PW.iconst (v := 0) dX4_book_13 (by decide) ?_
      refine PW.callS (k := kX4_book) (n := 1) (c_require false) dX4_book_14 gX4_book_X4_require rfl hs_X4_require rfl ⟨by decide, by decide⟩ ⟨rfl, rfl⟩ (Nat.le_of_ble_eq_true rfl) ⟨by decide, by decide⟩ rfl (fun _ _ hp => absurd hp.1 (by decide)) (fun E m9 hx => ?_)
      obtain ⟨-, rfl, rfl⟩ := hx
      exact PT.out rfl ⟨rfl, Or.inl ⟨rfl, fun q => q.2 h6⟩⟩ (by decide) (by decide)
    · refine PW.iconst (v := 1) dX4_book_9 (by decide) ?_
      refine PW.goto (tgt := 14) dX4_book_10 (by decide) ?_
      refine PW.callS (k := kX4_book) (n := 1) (c_require true) dX4_book_14 gX4_book_X4_require rfl hs_X4_require rfl ⟨by decide, by decide⟩ ⟨rfl, rfl⟩ (Nat.le_of_ble_eq_true rfl) ⟨by decide, by decide⟩ rfl (fun v m9 hp => ?_) (fun _ _ hx => absurd hx.1 (by decide))
      obtain ⟨-, rfl, rfl⟩ := hp
      refine PW.aload_n (i := 0) dX4_book_17 rfl rfl ?_
      refine PW.getf FX4_book_45 dX4_book_18 sm_desk rfl ?_
      refine PW.iload_n (i := 1) dX4_book_21 rfl rfl ?_
      refine PW.callV (k := kX4_book) (n := 1) (c_keeps _) dX4_book_22 gX4_book_X0_keeps rfl hd_X0_keeps rfl ⟨by decide, by decide⟩ ⟨rfl, rfl⟩ (Nat.le_of_ble_eq_true rfl) ⟨by decide, by decide⟩ sm_book (by decide) rfl rfl (fun v m9 hp => ?_) (fun _ _ hx => hx.elim)
      obtain ⟨rfl, rfl⟩ := hp
      refine PW.if_ne (tgt := 38) dX4_book_25 (by decide) (fun h25 => ?_) (fun h25 => ?_)
      · have hk := b2i_t h25
        obtain ⟨q, hq, rfl⟩ := keeps_of hw hk
        have hq9 : q < 100000 := by omega
        obtain ⟨p, hp, rfl⟩ := okPl_of ⟨h1, h6⟩
        refine PW.aload_n (i := 0) dX4_book_38 rfl rfl ?_
        refine PW.getf FX4_book_45 dX4_book_39 sm_desk rfl ?_
        refine PW.iload_n (i := 1) dX4_book_42 rfl rfl ?_
        refine PW.iload_n (i := 2) dX4_book_43 rfl rfl ?_
        refine PW.callV (k := kX4_book) (n := 2) (c_read hq9 hp) dX4_book_44 gX4_book_X0_read rfl hd_X0_read rfl ⟨by decide, by decide⟩ ⟨rfl, rfl⟩ (Nat.le_of_ble_eq_true rfl) ⟨by decide, by decide⟩ sm_book (by decide) rfl rfl (fun v m9 hp => ?_) (fun _ _ hx => hx.elim)
        obtain ⟨rfl, rfl⟩ := hp
        exact PW.iret dX4_book_47 rfl ⟨q, p, hq, hp, rfl, rfl, hk, rfl, rfl⟩ (by decide) (by decide)
      · exact PW.throwS (cls := "java/lang/IndexOutOfBoundsException") (text := "no such entry is kept") (names := ["java/lang/RuntimeException", "java/lang/Exception"]) (ik := 197) (is := 199) (ic := 201) (by decide +kernel) (by decide +kernel) (by decide +kernel) (by decide +kernel) (by decide +kernel) rfl (by decide +kernel) (fun _ h => List.mem_cons_of_mem _ (List.mem_append_left _ (List.mem_append_right _ h))) (by decide +kernel) (by decide +kernel) dX4_book_28 dX4_book_31 dX4_book_32 dX4_book_34 dX4_book_37 rfl (by decide) (Nat.le_of_ble_eq_true rfl) (by decide) (by decide) (by decide) (by decide) ⟨rfl, Or.inr ⟨rfl, ⟨h1, h6⟩, b2i_z h25⟩⟩
