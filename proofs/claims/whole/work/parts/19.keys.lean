abbrev kX4_callFromCamps : pK := (RX4, cX4_callFromCamps, 4, wsX4_callFromCamps, { frames := 4, cells := 0, slots := 0, locals := 120 }, none, [], 0, 0, pNo)
theorem FX4_callFromCamps_11 : pF kX4_callFromCamps.Ts kX4_callFromCamps.own 11 4 0 := ⟨_, _, _, by decide, rfl, by decide, by decide +kernel, by decide +kernel⟩
theorem FX4_callFromCamps_101 : pF kX4_callFromCamps.Ts kX4_callFromCamps.own 101 2 10 := ⟨_, _, _, by decide, rfl, by decide, by decide +kernel, by decide +kernel⟩
theorem FX4_callFromCamps_64 : pF kX4_callFromCamps.Ts kX4_callFromCamps.own 64 2 1 := ⟨_, _, _, by decide, rfl, by decide, by decide +kernel, by decide +kernel⟩
abbrev kX4_call : pK := (RX4, cX4_call, 3, wsX4_call, { frames := 5, cells := 0, slots := 0, locals := 150 }, none, [], 0, 0, pNo)
theorem FX4_call_11 : pF kX4_call.Ts kX4_call.own 11 4 0 := ⟨_, _, _, by decide, rfl, by decide, by decide +kernel, by decide +kernel⟩
theorem FX4_call_27 : pF kX4_call.Ts kX4_call.own 27 4 2 := ⟨_, _, _, by decide, rfl, by decide, by decide +kernel, by decide +kernel⟩
theorem FX4_call_182 : pF kX4_call.Ts kX4_call.own 182 2 9 := ⟨_, _, _, by decide, rfl, by decide, by decide +kernel, by decide +kernel⟩
theorem FX4_call_75 : pF kX4_call.Ts kX4_call.own 75 4 5 := ⟨_, _, _, by decide, rfl, by decide, by decide +kernel, by decide +kernel⟩
abbrev kX4_earliestDue : pK := (RX4, cX4_earliestDue, 3, wsX4_earliestDue, { frames := 1, cells := 0, slots := 0, locals := 30 }, (some .int), [], 0, 0, pNo)
theorem FX4_earliestDue_11 : pF kX4_earliestDue.Ts kX4_earliestDue.own 11 4 0 := ⟨_, _, _, by decide, rfl, by decide, by decide +kernel, by decide +kernel⟩
abbrev kX4_runOut : pK := (RX4, cX4_runOut, 2, wsX4_runOut, { frames := 4, cells := 0, slots := 0, locals := 120 }, none, [], 0, 0, pNo)
theorem FX4_runOut_64 : pF kX4_runOut.Ts kX4_runOut.own 64 2 1 := ⟨_, _, _, by decide, rfl, by decide, by decide +kernel, by decide +kernel⟩
theorem FX4_runOut_75 : pF kX4_runOut.Ts kX4_runOut.own 75 4 5 := ⟨_, _, _, by decide, rfl, by decide, by decide +kernel, by decide +kernel⟩
abbrev kX4_lookAtTimers : pK := (RX4, cX4_lookAtTimers, 2, wsX4_lookAtTimers, { frames := 5, cells := 0, slots := 0, locals := 150 }, none, [], 0, 0, pNo)
theorem FX4_lookAtTimers_11 : pF kX4_lookAtTimers.Ts kX4_lookAtTimers.own 11 4 0 := ⟨_, _, _, by decide, rfl, by decide, by decide +kernel, by decide +kernel⟩
theorem FX4_lookAtTimers_75 : pF kX4_lookAtTimers.Ts kX4_lookAtTimers.own 75 4 5 := ⟨_, _, _, by decide, rfl, by decide, by decide +kernel, by decide +kernel⟩
abbrev kX4_up : pK := (RX4, cX4_up, 3, wsX4_up, { frames := 8, cells := 2, slots := 12, locals := 240 }, (some .int), [], 2, 12, pNo)
theorem FX4_up_64 : pF kX4_up.Ts kX4_up.own 64 2 1 := ⟨_, _, _, by decide, rfl, by decide, by decide +kernel, by decide +kernel⟩
theorem FX4_up_75 : pF kX4_up.Ts kX4_up.own 75 4 5 := ⟨_, _, _, by decide, rfl, by decide, by decide +kernel, by decide +kernel⟩
abbrev kX4_down : pK := (RX4, cX4_down, 3, wsX4_down, { frames := 8, cells := 2, slots := 12, locals := 240 }, none, [], 2, 12, pNo)
theorem FX4_down_75 : pF kX4_down.Ts kX4_down.own 75 4 5 := ⟨_, _, _, by decide, rfl, by decide, by decide +kernel, by decide +kernel⟩
abbrev kX4_digit : pK := (RX4, cX4_digit, 4, wsX4_digit, { frames := 8, cells := 2, slots := 12, locals := 240 }, (some .int), [], 2, 12, pNo)
theorem FX4_digit_64 : pF kX4_digit.Ts kX4_digit.own 64 2 1 := ⟨_, _, _, by decide, rfl, by decide, by decide +kernel, by decide +kernel⟩
theorem FX4_digit_75 : pF kX4_digit.Ts kX4_digit.own 75 4 5 := ⟨_, _, _, by decide, rfl, by decide, by decide +kernel, by decide +kernel⟩
theorem FX4_digit_91 : pF kX4_digit.Ts kX4_digit.own 91 2 6 := ⟨_, _, _, by decide, rfl, by decide, by decide +kernel, by decide +kernel⟩
abbrev kX4_camp : pK := (RX4, cX4_camp, 4, wsX4_camp, { frames := 8, cells := 2, slots := 12, locals := 240 }, (some .int), [], 2, 12, pNo)
theorem FX4_camp_98 : pF kX4_camp.Ts kX4_camp.own 98 2 5 := ⟨_, _, _, by decide, rfl, by decide, by decide +kernel, by decide +kernel⟩
theorem FX4_camp_11 : pF kX4_camp.Ts kX4_camp.own 11 4 0 := ⟨_, _, _, by decide, rfl, by decide, by decide +kernel, by decide +kernel⟩
theorem FX4_camp_64 : pF kX4_camp.Ts kX4_camp.own 64 2 1 := ⟨_, _, _, by decide, rfl, by decide, by decide +kernel, by decide +kernel⟩
theorem FX4_camp_101 : pF kX4_camp.Ts kX4_camp.own 101 2 10 := ⟨_, _, _, by decide, rfl, by decide, by decide +kernel, by decide +kernel⟩
theorem FX4_camp_75 : pF kX4_camp.Ts kX4_camp.own 75 4 5 := ⟨_, _, _, by decide, rfl, by decide, by decide +kernel, by decide +kernel⟩
theorem FX4_camp_106 : pF kX4_camp.Ts kX4_camp.own 106 2 3 := ⟨_, _, _, by decide, rfl, by decide, by decide +kernel, by decide +kernel⟩
abbrev kX4_park : pK := (RX4, cX4_park, 5, wsX4_park, { frames := 8, cells := 3, slots := 18, locals := 240 }, (some .int), [], 3, 18, pNo)
theorem FX4_park_64 : pF kX4_park.Ts kX4_park.own 64 2 1 := ⟨_, _, _, by decide, rfl, by decide, by decide +kernel, by decide +kernel⟩
theorem FX4_park_32 : pF kX4_park.Ts kX4_park.own 32 4 3 := ⟨_, _, _, by decide, rfl, by decide, by decide +kernel, by decide +kernel⟩
theorem FX4_park_75 : pF kX4_park.Ts kX4_park.own 75 4 5 := ⟨_, _, _, by decide, rfl, by decide, by decide +kernel, by decide +kernel⟩
theorem FX4_park_106 : pF kX4_park.Ts kX4_park.own 106 2 3 := ⟨_, _, _, by decide, rfl, by decide, by decide +kernel, by decide +kernel⟩
theorem FX4_park_115 : pF kX4_park.Ts kX4_park.own 115 2 0 := ⟨_, _, _, by decide, rfl, by decide, by decide +kernel, by decide +kernel⟩
abbrev kX4_transfer : pK := (RX4, cX4_transfer, 5, wsX4_transfer, { frames := 8, cells := 3, slots := 18, locals := 240 }, (some .int), [], 3, 18, pNo)
theorem FX4_transfer_64 : pF kX4_transfer.Ts kX4_transfer.own 64 2 1 := ⟨_, _, _, by decide, rfl, by decide, by decide +kernel, by decide +kernel⟩
abbrev kX4_tick : pK := (RX4, cX4_tick, 4, wsX4_tick, { frames := 8, cells := 1, slots := 6, locals := 240 }, (some .int), [], 1, 6, pNo)
theorem FX4_tick_75 : pF kX4_tick.Ts kX4_tick.own 75 4 5 := ⟨_, _, _, by decide, rfl, by decide, by decide +kernel, by decide +kernel⟩
abbrev kX4_group : pK := (RX4, cX4_group, 5, wsX4_group, { frames := 7, cells := 3, slots := 18, locals := 210 }, (some .int), [], 3, 18, pNo)
theorem FX4_group_27 : pF kX4_group.Ts kX4_group.own 27 4 2 := ⟨_, _, _, by decide, rfl, by decide, by decide +kernel, by decide +kernel⟩
theorem FX4_group_146 : pF kX4_group.Ts kX4_group.own 146 1 1 := ⟨_, _, _, by decide, rfl, by decide, by decide +kernel, by decide +kernel⟩
abbrev kX4_slot : pK := (RX4, cX4_slot, 4, wsX4_slot, { frames := 7, cells := 2, slots := 12, locals := 210 }, none, [], 2, 12, pNo)
theorem FX4_slot_21 : pF kX4_slot.Ts kX4_slot.own 21 4 1 := ⟨_, _, _, by decide, rfl, by decide, by decide +kernel, by decide +kernel⟩
theorem FX4_slot_158 : pF kX4_slot.Ts kX4_slot.own 158 3 0 := ⟨_, _, _, by decide, rfl, by decide, by decide +kernel, by decide +kernel⟩
abbrev kX4_carries : pK := (RX4, cX4_carries, 3, wsX4_carries, { frames := 7, cells := 1, slots := 6, locals := 210 }, (some .int), [], 1, 6, pNo)
theorem FX4_carries_21 : pF kX4_carries.Ts kX4_carries.own 21 4 1 := ⟨_, _, _, by decide, rfl, by decide, by decide +kernel, by decide +kernel⟩
theorem FX4_carries_158 : pF kX4_carries.Ts kX4_carries.own 158 3 0 := ⟨_, _, _, by decide, rfl, by decide, by decide +kernel, by decide +kernel⟩
abbrev kX4_line : pK := (RX4, cX4_line, 4, wsX4_line, { frames := 8, cells := 2, slots := 12, locals := 240 }, (some .int), [], 2, 12, pNo)
theorem FX4_line_64 : pF kX4_line.Ts kX4_line.own 64 2 1 := ⟨_, _, _, by decide, rfl, by decide, by decide +kernel, by decide +kernel⟩
theorem FX4_line_106 : pF kX4_line.Ts kX4_line.own 106 2 3 := ⟨_, _, _, by decide, rfl, by decide, by decide +kernel, by decide +kernel⟩
theorem FX4_line_172 : pF kX4_line.Ts kX4_line.own 172 2 7 := ⟨_, _, _, by decide, rfl, by decide, by decide +kernel, by decide +kernel⟩
theorem FX4_line_176 : pF kX4_line.Ts kX4_line.own 176 2 8 := ⟨_, _, _, by decide, rfl, by decide, by decide +kernel, by decide +kernel⟩
theorem FX4_line_182 : pF kX4_line.Ts kX4_line.own 182 2 9 := ⟨_, _, _, by decide, rfl, by decide, by decide +kernel, by decide +kernel⟩
theorem FX4_line_101 : pF kX4_line.Ts kX4_line.own 101 2 10 := ⟨_, _, _, by decide, rfl, by decide, by decide +kernel, by decide +kernel⟩
abbrev kX4_count : pK := (RX4, cX4_count, 2, wsX4_count, { frames := 7, cells := 1, slots := 6, locals := 210 }, (some .int), [], 1, 6, pNo)
theorem FX4_count_185 : pF kX4_count.Ts kX4_count.own 185 4 6 := ⟨_, _, _, by decide, rfl, by decide, by decide +kernel, by decide +kernel⟩
theorem FX4_count_45 : pF kX4_count.Ts kX4_count.own 45 4 4 := ⟨_, _, _, by decide, rfl, by decide, by decide +kernel, by decide +kernel⟩
theorem FX4_count_188 : pF kX4_count.Ts kX4_count.own 188 0 1 := ⟨_, _, _, by decide, rfl, by decide, by decide +kernel, by decide +kernel⟩
theorem FX4_count_21 : pF kX4_count.Ts kX4_count.own 21 4 1 := ⟨_, _, _, by decide, rfl, by decide, by decide +kernel, by decide +kernel⟩
abbrev kX4_book : pK := (RX4, cX4_book, 3, wsX4_book, { frames := 7, cells := 2, slots := 12, locals := 210 }, (some .int), [], 2, 12, pNo)
theorem FX4_book_45 : pF kX4_book.Ts kX4_book.own 45 4 4 := ⟨_, _, _, by decide, rfl, by decide, by decide +kernel, by decide +kernel⟩
