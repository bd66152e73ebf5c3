abbrev kX5_thrown : pK := (RX5, cX5_thrown, 1, wsX5_thrown, { frames := 0, cells := 0, slots := 0, locals := 0 }, (some .int), [], 0, 0, pNo)
theorem FX5_thrown_71 : pF kX5_thrown.Ts kX5_thrown.own 71 5 0 := ⟨_, _, _, by decide, rfl, by decide, by decide +kernel, by decide +kernel⟩
abbrev kX5_throwing : pK := (RX5, cX5_throwing, 3, wsX5_throwing, { frames := 0, cells := 0, slots := 0, locals := 0 }, (some .boolean), [], 0, 0, pNo)
theorem FX5_throwing_71 : pF kX5_throwing.Ts kX5_throwing.own 71 5 0 := ⟨_, _, _, by decide, rfl, by decide, by decide +kernel, by decide +kernel⟩
abbrev kX5_in : pK := (RX5, cX5_in, 3, wsX5_in, { frames := 0, cells := 0, slots := 0, locals := 0 }, (some .boolean), [], 0, 0, pNo)
abbrev kX5_isLine : pK := (RX5, cX5_isLine, 1, wsX5_isLine, { frames := 1, cells := 0, slots := 0, locals := 30 }, (some .boolean), [], 0, 0, pNo)
abbrev kX5_free : pK := (RX5, cX5_free, 4, wsX5_free, { frames := 0, cells := 0, slots := 0, locals := 0 }, (some .int), [], 0, 0, pNo)
theorem FX5_free_53 : pF kX5_free.Ts kX5_free.own 53 5 17 := ⟨_, _, _, by decide, rfl, by decide, by decide +kernel, by decide +kernel⟩
abbrev kX5_use : pK := (RX5, cX5_use, 5, wsX5_use, { frames := 0, cells := 0, slots := 0, locals := 0 }, none, [], 0, 0, pNo)
theorem FX5_use_53 : pF kX5_use.Ts kX5_use.own 53 5 17 := ⟨_, _, _, by decide, rfl, by decide, by decide +kernel, by decide +kernel⟩
abbrev kX5_take : pK := (RX5, cX5_take, 4, wsX5_take, { frames := 1, cells := 0, slots := 0, locals := 30 }, (some .int), [], 0, 0, pNo)
abbrev kX5_become : pK := (RX5, cX5_become, 3, wsX5_become, { frames := 0, cells := 0, slots := 0, locals := 0 }, none, [], 0, 0, pNo)
theorem FX5_become_7 : pF kX5_become.Ts kX5_become.own 7 5 2 := ⟨_, _, _, by decide, rfl, by decide, by decide +kernel, by decide +kernel⟩
theorem FX5_become_13 : pF kX5_become.Ts kX5_become.own 13 5 3 := ⟨_, _, _, by decide, rfl, by decide, by decide +kernel, by decide +kernel⟩
theorem FX5_become_87 : pF kX5_become.Ts kX5_become.own 87 5 1 := ⟨_, _, _, by decide, rfl, by decide, by decide +kernel, by decide +kernel⟩
theorem FX5_become_31 : pF kX5_become.Ts kX5_become.own 31 5 10 := ⟨_, _, _, by decide, rfl, by decide, by decide +kernel, by decide +kernel⟩
theorem FX5_become_16 : pF kX5_become.Ts kX5_become.own 16 5 4 := ⟨_, _, _, by decide, rfl, by decide, by decide +kernel, by decide +kernel⟩
theorem FX5_become_22 : pF kX5_become.Ts kX5_become.own 22 5 6 := ⟨_, _, _, by decide, rfl, by decide, by decide +kernel, by decide +kernel⟩
theorem FX5_become_25 : pF kX5_become.Ts kX5_become.own 25 5 7 := ⟨_, _, _, by decide, rfl, by decide, by decide +kernel, by decide +kernel⟩
abbrev kX5_busy : pK := (RX5, cX5_busy, 2, wsX5_busy, { frames := 1, cells := 0, slots := 0, locals := 30 }, none, [], 0, 0, pNo)
theorem FX5_busy_22 : pF kX5_busy.Ts kX5_busy.own 22 5 6 := ⟨_, _, _, by decide, rfl, by decide, by decide +kernel, by decide +kernel⟩
theorem FX5_busy_25 : pF kX5_busy.Ts kX5_busy.own 25 5 7 := ⟨_, _, _, by decide, rfl, by decide, by decide +kernel, by decide +kernel⟩
abbrev kX5_ring : pK := (RX5, cX5_ring, 4, wsX5_ring, { frames := 1, cells := 0, slots := 0, locals := 30 }, none, [], 0, 0, pNo)
theorem FX5_ring_22 : pF kX5_ring.Ts kX5_ring.own 22 5 6 := ⟨_, _, _, by decide, rfl, by decide, by decide +kernel, by decide +kernel⟩
theorem FX5_ring_25 : pF kX5_ring.Ts kX5_ring.own 25 5 7 := ⟨_, _, _, by decide, rfl, by decide, by decide +kernel, by decide +kernel⟩
theorem FX5_ring_28 : pF kX5_ring.Ts kX5_ring.own 28 5 8 := ⟨_, _, _, by decide, rfl, by decide, by decide +kernel, by decide +kernel⟩
theorem FX5_ring_94 : pF kX5_ring.Ts kX5_ring.own 94 5 9 := ⟨_, _, _, by decide, rfl, by decide, by decide +kernel, by decide +kernel⟩
theorem FX5_ring_7 : pF kX5_ring.Ts kX5_ring.own 7 5 2 := ⟨_, _, _, by decide, rfl, by decide, by decide +kernel, by decide +kernel⟩
abbrev kX5_connect : pK := (RX5, cX5_connect, 4, wsX5_connect, { frames := 1, cells := 0, slots := 0, locals := 30 }, none, [], 0, 0, pNo)
theorem FX5_connect_22 : pF kX5_connect.Ts kX5_connect.own 22 5 6 := ⟨_, _, _, by decide, rfl, by decide, by decide +kernel, by decide +kernel⟩
theorem FX5_connect_25 : pF kX5_connect.Ts kX5_connect.own 25 5 7 := ⟨_, _, _, by decide, rfl, by decide, by decide +kernel, by decide +kernel⟩
theorem FX5_connect_41 : pF kX5_connect.Ts kX5_connect.own 41 5 13 := ⟨_, _, _, by decide, rfl, by decide, by decide +kernel, by decide +kernel⟩
theorem FX5_connect_44 : pF kX5_connect.Ts kX5_connect.own 44 5 14 := ⟨_, _, _, by decide, rfl, by decide, by decide +kernel, by decide +kernel⟩
theorem FX5_connect_87 : pF kX5_connect.Ts kX5_connect.own 87 5 1 := ⟨_, _, _, by decide, rfl, by decide, by decide +kernel, by decide +kernel⟩
abbrev kX5_hush : pK := (RX5, cX5_hush, 4, wsX5_hush, { frames := 1, cells := 0, slots := 0, locals := 30 }, none, [], 0, 0, pNo)
theorem FX5_hush_7 : pF kX5_hush.Ts kX5_hush.own 7 5 2 := ⟨_, _, _, by decide, rfl, by decide, by decide +kernel, by decide +kernel⟩
theorem FX5_hush_22 : pF kX5_hush.Ts kX5_hush.own 22 5 6 := ⟨_, _, _, by decide, rfl, by decide, by decide +kernel, by decide +kernel⟩
theorem FX5_hush_25 : pF kX5_hush.Ts kX5_hush.own 25 5 7 := ⟨_, _, _, by decide, rfl, by decide, by decide +kernel, by decide +kernel⟩
abbrev kX5_unitsOf : pK := (RX5, cX5_unitsOf, 2, wsX5_unitsOf, { frames := 0, cells := 0, slots := 0, locals := 0 }, (some .int), [], 0, 0, pNo)
theorem FX5_unitsOf_87 : pF kX5_unitsOf.Ts kX5_unitsOf.own 87 5 1 := ⟨_, _, _, by decide, rfl, by decide, by decide +kernel, by decide +kernel⟩
theorem FX5_unitsOf_44 : pF kX5_unitsOf.Ts kX5_unitsOf.own 44 5 14 := ⟨_, _, _, by decide, rfl, by decide, by decide +kernel, by decide +kernel⟩
abbrev kX5_finish : pK := (RX5, cX5_finish, 5, wsX5_finish, { frames := 1, cells := 0, slots := 0, locals := 30 }, none, [], 0, 0, pNo)
theorem FX5_finish_22 : pF kX5_finish.Ts kX5_finish.own 22 5 6 := ⟨_, _, _, by decide, rfl, by decide, by decide +kernel, by decide +kernel⟩
theorem FX5_finish_41 : pF kX5_finish.Ts kX5_finish.own 41 5 13 := ⟨_, _, _, by decide, rfl, by decide, by decide +kernel, by decide +kernel⟩
theorem FX5_finish_97 : pF kX5_finish.Ts kX5_finish.own 97 5 23 := ⟨_, _, _, by decide, rfl, by decide, by decide +kernel, by decide +kernel⟩
theorem FX5_finish_68 : pF kX5_finish.Ts kX5_finish.own 68 5 24 := ⟨_, _, _, by decide, rfl, by decide, by decide +kernel, by decide +kernel⟩
theorem FX5_finish_44 : pF kX5_finish.Ts kX5_finish.own 44 5 14 := ⟨_, _, _, by decide, rfl, by decide, by decide +kernel, by decide +kernel⟩
theorem FX5_finish_38 : pF kX5_finish.Ts kX5_finish.own 38 5 12 := ⟨_, _, _, by decide, rfl, by decide, by decide +kernel, by decide +kernel⟩
theorem FX5_finish_25 : pF kX5_finish.Ts kX5_finish.own 25 5 7 := ⟨_, _, _, by decide, rfl, by decide, by decide +kernel, by decide +kernel⟩
abbrev kX5_callLine : pK := (RX5, cX5_callLine, 4, wsX5_callLine, { frames := 2, cells := 0, slots := 0, locals := 60 }, none, [], 0, 0, pNo)
theorem FX5_callLine_34 : pF kX5_callLine.Ts kX5_callLine.own 34 5 11 := ⟨_, _, _, by decide, rfl, by decide, by decide +kernel, by decide +kernel⟩
theorem FX5_callLine_7 : pF kX5_callLine.Ts kX5_callLine.own 7 5 2 := ⟨_, _, _, by decide, rfl, by decide, by decide +kernel, by decide +kernel⟩
theorem FX5_callLine_31 : pF kX5_callLine.Ts kX5_callLine.own 31 5 10 := ⟨_, _, _, by decide, rfl, by decide, by decide +kernel, by decide +kernel⟩
theorem FX5_callLine_123 : pF kX5_callLine.Ts kX5_callLine.own 123 5 22 := ⟨_, _, _, by decide, rfl, by decide, by decide +kernel, by decide +kernel⟩
abbrev kX5_mayRing : pK := (RX5, cX5_mayRing, 3, wsX5_mayRing, { frames := 0, cells := 0, slots := 0, locals := 0 }, (some .boolean), [], 0, 0, pNo)
theorem FX5_mayRing_7 : pF kX5_mayRing.Ts kX5_mayRing.own 7 5 2 := ⟨_, _, _, by decide, rfl, by decide, by decide +kernel, by decide +kernel⟩
theorem FX5_mayRing_34 : pF kX5_mayRing.Ts kX5_mayRing.own 34 5 11 := ⟨_, _, _, by decide, rfl, by decide, by decide +kernel, by decide +kernel⟩
abbrev kX5_callGroup : pK := (RX5, cX5_callGroup, 10, wsX5_callGroup, { frames := 2, cells := 0, slots := 0, locals := 60 }, none, [], 0, 0, pNo)
theorem FX5_callGroup_59 : pF kX5_callGroup.Ts kX5_callGroup.own 59 5 19 := ⟨_, _, _, by decide, rfl, by decide, by decide +kernel, by decide +kernel⟩
theorem FX5_callGroup_62 : pF kX5_callGroup.Ts kX5_callGroup.own 62 5 20 := ⟨_, _, _, by decide, rfl, by decide, by decide +kernel, by decide +kernel⟩
theorem FX5_callGroup_65 : pF kX5_callGroup.Ts kX5_callGroup.own 65 5 21 := ⟨_, _, _, by decide, rfl, by decide, by decide +kernel, by decide +kernel⟩
theorem FX5_callGroup_56 : pF kX5_callGroup.Ts kX5_callGroup.own 56 5 18 := ⟨_, _, _, by decide, rfl, by decide, by decide +kernel, by decide +kernel⟩
theorem FX5_callGroup_16 : pF kX5_callGroup.Ts kX5_callGroup.own 16 5 4 := ⟨_, _, _, by decide, rfl, by decide, by decide +kernel, by decide +kernel⟩
theorem FX5_callGroup_123 : pF kX5_callGroup.Ts kX5_callGroup.own 123 5 22 := ⟨_, _, _, by decide, rfl, by decide, by decide +kernel, by decide +kernel⟩
abbrev kX5_pick : pK := (RX5, cX5_pick, 5, wsX5_pick, { frames := 2, cells := 0, slots := 0, locals := 60 }, none, [], 0, 0, pNo)
theorem FX5_pick_7 : pF kX5_pick.Ts kX5_pick.own 7 5 2 := ⟨_, _, _, by decide, rfl, by decide, by decide +kernel, by decide +kernel⟩
theorem FX5_pick_13 : pF kX5_pick.Ts kX5_pick.own 13 5 3 := ⟨_, _, _, by decide, rfl, by decide, by decide +kernel, by decide +kernel⟩
theorem FX5_pick_22 : pF kX5_pick.Ts kX5_pick.own 22 5 6 := ⟨_, _, _, by decide, rfl, by decide, by decide +kernel, by decide +kernel⟩
theorem FX5_pick_123 : pF kX5_pick.Ts kX5_pick.own 123 5 22 := ⟨_, _, _, by decide, rfl, by decide, by decide +kernel, by decide +kernel⟩
abbrev kX5_unpark : pK := (RX5, cX5_unpark, 5, wsX5_unpark, { frames := 2, cells := 0, slots := 0, locals := 60 }, none, [], 0, 0, pNo)
theorem FX5_unpark_50 : pF kX5_unpark.Ts kX5_unpark.own 50 5 16 := ⟨_, _, _, by decide, rfl, by decide, by decide +kernel, by decide +kernel⟩
theorem FX5_unpark_123 : pF kX5_unpark.Ts kX5_unpark.own 123 5 22 := ⟨_, _, _, by decide, rfl, by decide, by decide +kernel, by decide +kernel⟩
abbrev kX5_call : pK := (RX5, cX5_call, 3, wsX5_call, { frames := 3, cells := 0, slots := 0, locals := 90 }, none, [], 0, 0, pNo)
theorem FX5_call_34 : pF kX5_call.Ts kX5_call.own 34 5 11 := ⟨_, _, _, by decide, rfl, by decide, by decide +kernel, by decide +kernel⟩
abbrev kX5_settle : pK := (RX5, cX5_settle, 3, wsX5_settle, { frames := 3, cells := 0, slots := 0, locals := 90 }, none, [], 0, 0, pNo)
theorem FX5_settle_7 : pF kX5_settle.Ts kX5_settle.own 7 5 2 := ⟨_, _, _, by decide, rfl, by decide, by decide +kernel, by decide +kernel⟩
theorem FX5_settle_47 : pF kX5_settle.Ts kX5_settle.own 47 5 15 := ⟨_, _, _, by decide, rfl, by decide, by decide +kernel, by decide +kernel⟩
theorem FX5_settle_22 : pF kX5_settle.Ts kX5_settle.own 22 5 6 := ⟨_, _, _, by decide, rfl, by decide, by decide +kernel, by decide +kernel⟩
abbrev kX5_up : pK := (RX5, cX5_up, 4, wsX5_up, { frames := 4, cells := 0, slots := 0, locals := 120 }, (some .int), [], 0, 0, pNo)
theorem FX5_up_7 : pF kX5_up.Ts kX5_up.own 7 5 2 := ⟨_, _, _, by decide, rfl, by decide, by decide +kernel, by decide +kernel⟩
theorem FX5_up_22 : pF kX5_up.Ts kX5_up.own 22 5 6 := ⟨_, _, _, by decide, rfl, by decide, by decide +kernel, by decide +kernel⟩
theorem FX5_up_25 : pF kX5_up.Ts kX5_up.own 25 5 7 := ⟨_, _, _, by decide, rfl, by decide, by decide +kernel, by decide +kernel⟩
abbrev kX5_leave : pK := (RX5, cX5_leave, 3, wsX5_leave, { frames := 2, cells := 0, slots := 0, locals := 60 }, none, [], 0, 0, pNo)
theorem FX5_leave_7 : pF kX5_leave.Ts kX5_leave.own 7 5 2 := ⟨_, _, _, by decide, rfl, by decide, by decide +kernel, by decide +kernel⟩
theorem FX5_leave_22 : pF kX5_leave.Ts kX5_leave.own 22 5 6 := ⟨_, _, _, by decide, rfl, by decide, by decide +kernel, by decide +kernel⟩
theorem FX5_leave_50 : pF kX5_leave.Ts kX5_leave.own 50 5 16 := ⟨_, _, _, by decide, rfl, by decide, by decide +kernel, by decide +kernel⟩
theorem FX5_leave_47 : pF kX5_leave.Ts kX5_leave.own 47 5 15 := ⟨_, _, _, by decide, rfl, by decide, by decide +kernel, by decide +kernel⟩
abbrev kX5_down : pK := (RX5, cX5_down, 3, wsX5_down, { frames := 4, cells := 0, slots := 0, locals := 120 }, none, [], 0, 0, pNo)
theorem FX5_down_7 : pF kX5_down.Ts kX5_down.own 7 5 2 := ⟨_, _, _, by decide, rfl, by decide, by decide +kernel, by decide +kernel⟩
abbrev kX5_digit : pK := (RX5, cX5_digit, 3, wsX5_digit, { frames := 4, cells := 0, slots := 0, locals := 120 }, (some .int), [], 0, 0, pNo)
theorem FX5_digit_7 : pF kX5_digit.Ts kX5_digit.own 7 5 2 := ⟨_, _, _, by decide, rfl, by decide, by decide +kernel, by decide +kernel⟩
theorem FX5_digit_19 : pF kX5_digit.Ts kX5_digit.own 19 5 5 := ⟨_, _, _, by decide, rfl, by decide, by decide +kernel, by decide +kernel⟩
abbrev kX5_camp : pK := (RX5, cX5_camp, 4, wsX5_camp, { frames := 2, cells := 0, slots := 0, locals := 60 }, (some .int), [], 0, 0, pNo)
theorem FX5_camp_31 : pF kX5_camp.Ts kX5_camp.own 31 5 10 := ⟨_, _, _, by decide, rfl, by decide, by decide +kernel, by decide +kernel⟩
theorem FX5_camp_7 : pF kX5_camp.Ts kX5_camp.own 7 5 2 := ⟨_, _, _, by decide, rfl, by decide, by decide +kernel, by decide +kernel⟩
theorem FX5_camp_47 : pF kX5_camp.Ts kX5_camp.own 47 5 15 := ⟨_, _, _, by decide, rfl, by decide, by decide +kernel, by decide +kernel⟩
theorem FX5_camp_22 : pF kX5_camp.Ts kX5_camp.own 22 5 6 := ⟨_, _, _, by decide, rfl, by decide, by decide +kernel, by decide +kernel⟩
abbrev kX5_park : pK := (RX5, cX5_park, 5, wsX5_park, { frames := 2, cells := 0, slots := 0, locals := 60 }, (some .int), [], 0, 0, pNo)
theorem FX5_park_7 : pF kX5_park.Ts kX5_park.own 7 5 2 := ⟨_, _, _, by decide, rfl, by decide, by decide +kernel, by decide +kernel⟩
theorem FX5_park_50 : pF kX5_park.Ts kX5_park.own 50 5 16 := ⟨_, _, _, by decide, rfl, by decide, by decide +kernel, by decide +kernel⟩
theorem FX5_park_22 : pF kX5_park.Ts kX5_park.own 22 5 6 := ⟨_, _, _, by decide, rfl, by decide, by decide +kernel, by decide +kernel⟩
abbrev kX5_transfer : pK := (RX5, cX5_transfer, 5, wsX5_transfer, { frames := 4, cells := 0, slots := 0, locals := 120 }, (some .int), [], 0, 0, pNo)
theorem FX5_transfer_7 : pF kX5_transfer.Ts kX5_transfer.own 7 5 2 := ⟨_, _, _, by decide, rfl, by decide, by decide +kernel, by decide +kernel⟩
theorem FX5_transfer_22 : pF kX5_transfer.Ts kX5_transfer.own 22 5 6 := ⟨_, _, _, by decide, rfl, by decide, by decide +kernel, by decide +kernel⟩
abbrev kX5_watch : pK := (RX5, cX5_watch, 4, wsX5_watch, { frames := 4, cells := 0, slots := 0, locals := 120 }, none, [], 0, 0, pNo)
theorem FX5_watch_7 : pF kX5_watch.Ts kX5_watch.own 7 5 2 := ⟨_, _, _, by decide, rfl, by decide, by decide +kernel, by decide +kernel⟩
theorem FX5_watch_87 : pF kX5_watch.Ts kX5_watch.own 87 5 1 := ⟨_, _, _, by decide, rfl, by decide, by decide +kernel, by decide +kernel⟩
theorem FX5_watch_13 : pF kX5_watch.Ts kX5_watch.own 13 5 3 := ⟨_, _, _, by decide, rfl, by decide, by decide +kernel, by decide +kernel⟩
abbrev kX5_tick : pK := (RX5, cX5_tick, 4, wsX5_tick, { frames := 5, cells := 0, slots := 0, locals := 150 }, (some .int), [], 0, 0, pNo)
theorem FX5_tick_87 : pF kX5_tick.Ts kX5_tick.own 87 5 1 := ⟨_, _, _, by decide, rfl, by decide, by decide +kernel, by decide +kernel⟩
abbrev kX5_group : pK := (RX5, cX5_group, 6, wsX5_group, { frames := 1, cells := 0, slots := 0, locals := 30 }, (some .int), [], 0, 0, pNo)
theorem FX5_group_59 : pF kX5_group.Ts kX5_group.own 59 5 19 := ⟨_, _, _, by decide, rfl, by decide, by decide +kernel, by decide +kernel⟩
theorem FX5_group_56 : pF kX5_group.Ts kX5_group.own 56 5 18 := ⟨_, _, _, by decide, rfl, by decide, by decide +kernel, by decide +kernel⟩
theorem FX5_group_62 : pF kX5_group.Ts kX5_group.own 62 5 20 := ⟨_, _, _, by decide, rfl, by decide, by decide +kernel, by decide +kernel⟩
theorem FX5_group_65 : pF kX5_group.Ts kX5_group.own 65 5 21 := ⟨_, _, _, by decide, rfl, by decide, by decide +kernel, by decide +kernel⟩
abbrev kX5_slot : pK := (RX5, cX5_slot, 5, wsX5_slot, { frames := 1, cells := 0, slots := 0, locals := 30 }, none, [], 0, 0, pNo)
theorem FX5_slot_53 : pF kX5_slot.Ts kX5_slot.own 53 5 17 := ⟨_, _, _, by decide, rfl, by decide, by decide +kernel, by decide +kernel⟩
abbrev kX5_carries : pK := (RX5, cX5_carries, 3, wsX5_carries, { frames := 1, cells := 0, slots := 0, locals := 30 }, (some .int), [], 0, 0, pNo)
theorem FX5_carries_53 : pF kX5_carries.Ts kX5_carries.own 53 5 17 := ⟨_, _, _, by decide, rfl, by decide, by decide +kernel, by decide +kernel⟩
abbrev kX5_ringer : pK := (RX5, cX5_ringer, 3, wsX5_ringer, { frames := 0, cells := 0, slots := 0, locals := 0 }, (some .int), [], 0, 0, pNo)
theorem FX5_ringer_7 : pF kX5_ringer.Ts kX5_ringer.own 7 5 2 := ⟨_, _, _, by decide, rfl, by decide, by decide +kernel, by decide +kernel⟩
theorem FX5_ringer_22 : pF kX5_ringer.Ts kX5_ringer.own 22 5 6 := ⟨_, _, _, by decide, rfl, by decide, by decide +kernel, by decide +kernel⟩
abbrev kX5_line : pK := (RX5, cX5_line, 4, wsX5_line, { frames := 2, cells := 0, slots := 0, locals := 60 }, (some .int), [], 0, 0, pNo)
theorem FX5_line_7 : pF kX5_line.Ts kX5_line.own 7 5 2 := ⟨_, _, _, by decide, rfl, by decide, by decide +kernel, by decide +kernel⟩
theorem FX5_line_22 : pF kX5_line.Ts kX5_line.own 22 5 6 := ⟨_, _, _, by decide, rfl, by decide, by decide +kernel, by decide +kernel⟩
theorem FX5_line_25 : pF kX5_line.Ts kX5_line.own 25 5 7 := ⟨_, _, _, by decide, rfl, by decide, by decide +kernel, by decide +kernel⟩
theorem FX5_line_38 : pF kX5_line.Ts kX5_line.own 38 5 12 := ⟨_, _, _, by decide, rfl, by decide, by decide +kernel, by decide +kernel⟩
theorem FX5_line_41 : pF kX5_line.Ts kX5_line.own 41 5 13 := ⟨_, _, _, by decide, rfl, by decide, by decide +kernel, by decide +kernel⟩
theorem FX5_line_34 : pF kX5_line.Ts kX5_line.own 34 5 11 := ⟨_, _, _, by decide, rfl, by decide, by decide +kernel, by decide +kernel⟩
theorem FX5_line_47 : pF kX5_line.Ts kX5_line.own 47 5 15 := ⟨_, _, _, by decide, rfl, by decide, by decide +kernel, by decide +kernel⟩
abbrev kX5_count : pK := (RX5, cX5_count, 4, wsX5_count, { frames := 1, cells := 0, slots := 0, locals := 30 }, (some .int), [], 0, 0, pNo)
theorem FX5_count_53 : pF kX5_count.Ts kX5_count.own 53 5 17 := ⟨_, _, _, by decide, rfl, by decide, by decide +kernel, by decide +kernel⟩
theorem FX5_count_123 : pF kX5_count.Ts kX5_count.own 123 5 22 := ⟨_, _, _, by decide, rfl, by decide, by decide +kernel, by decide +kernel⟩
theorem FX5_count_97 : pF kX5_count.Ts kX5_count.own 97 5 23 := ⟨_, _, _, by decide, rfl, by decide, by decide +kernel, by decide +kernel⟩
abbrev kX5_book : pK := (RX5, cX5_book, 4, wsX5_book, { frames := 1, cells := 0, slots := 0, locals := 30 }, (some .int), [], 0, 0, pNo)
theorem FX5_book_97 : pF kX5_book.Ts kX5_book.own 97 5 23 := ⟨_, _, _, by decide, rfl, by decide, by decide +kernel, by decide +kernel⟩
theorem FX5_book_68 : pF kX5_book.Ts kX5_book.own 68 5 24 := ⟨_, _, _, by decide, rfl, by decide, by decide +kernel, by decide +kernel⟩
