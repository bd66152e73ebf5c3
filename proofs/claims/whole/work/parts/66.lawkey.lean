/-! THE LAW: its key, and its calls' heads -/
abbrev kL_law (b Ls : Nat) (xs : Nat → Int32) : pK := (RL, cL_law, 7, wsL_law, room_1, (some .boolean), [], 612755, 7257839, scG b Ls xs)
def lwP : pP := fun v _ => v = some (.int 1)
def lwT : pT := fun _ _ => False
theorem hdL_up : yL_up.cls ≠ "java/lang/invoke/MethodHandle" ∧ yL_up.cls ≠ "java/lang/invoke/VarHandle" ∧ (parseMethodDescriptor yL_up.desc).map (fun d => d.parameters.length) = some 3 := by decide +kernel
theorem hdL_down : yL_down.cls ≠ "java/lang/invoke/MethodHandle" ∧ yL_down.cls ≠ "java/lang/invoke/VarHandle" ∧ (parseMethodDescriptor yL_down.desc).map (fun d => d.parameters.length) = some 2 := by decide +kernel
theorem hdL_digit : yL_digit.cls ≠ "java/lang/invoke/MethodHandle" ∧ yL_digit.cls ≠ "java/lang/invoke/VarHandle" ∧ (parseMethodDescriptor yL_digit.desc).map (fun d => d.parameters.length) = some 4 := by decide +kernel
theorem hdL_camp : yL_camp.cls ≠ "java/lang/invoke/MethodHandle" ∧ yL_camp.cls ≠ "java/lang/invoke/VarHandle" ∧ (parseMethodDescriptor yL_camp.desc).map (fun d => d.parameters.length) = some 3 := by decide +kernel
theorem hdL_park : yL_park.cls ≠ "java/lang/invoke/MethodHandle" ∧ yL_park.cls ≠ "java/lang/invoke/VarHandle" ∧ (parseMethodDescriptor yL_park.desc).map (fun d => d.parameters.length) = some 4 := by decide +kernel
theorem hdL_transfer : yL_transfer.cls ≠ "java/lang/invoke/MethodHandle" ∧ yL_transfer.cls ≠ "java/lang/invoke/VarHandle" ∧ (parseMethodDescriptor yL_transfer.desc).map (fun d => d.parameters.length) = some 4 := by decide +kernel
theorem hdL_tick : yL_tick.cls ≠ "java/lang/invoke/MethodHandle" ∧ yL_tick.cls ≠ "java/lang/invoke/VarHandle" ∧ (parseMethodDescriptor yL_tick.desc).map (fun d => d.parameters.length) = some 3 := by decide +kernel
theorem hdL_group : yL_group.cls ≠ "java/lang/invoke/MethodHandle" ∧ yL_group.cls ≠ "java/lang/invoke/VarHandle" ∧ (parseMethodDescriptor yL_group.desc).map (fun d => d.parameters.length) = some 5 := by decide +kernel
theorem hdL_slot : yL_slot.cls ≠ "java/lang/invoke/MethodHandle" ∧ yL_slot.cls ≠ "java/lang/invoke/VarHandle" ∧ (parseMethodDescriptor yL_slot.desc).map (fun d => d.parameters.length) = some 4 := by decide +kernel
theorem hdL_carries : yL_carries.cls ≠ "java/lang/invoke/MethodHandle" ∧ yL_carries.cls ≠ "java/lang/invoke/VarHandle" ∧ (parseMethodDescriptor yL_carries.desc).map (fun d => d.parameters.length) = some 4 := by decide +kernel
theorem hdL_line : yL_line.cls ≠ "java/lang/invoke/MethodHandle" ∧ yL_line.cls ≠ "java/lang/invoke/VarHandle" ∧ (parseMethodDescriptor yL_line.desc).map (fun d => d.parameters.length) = some 4 := by decide +kernel
theorem hdL_count : yL_count.cls ≠ "java/lang/invoke/MethodHandle" ∧ yL_count.cls ≠ "java/lang/invoke/VarHandle" ∧ (parseMethodDescriptor yL_count.desc).map (fun d => d.parameters.length) = some 3 := by decide +kernel
theorem hdL_book : yL_book.cls ≠ "java/lang/invoke/MethodHandle" ∧ yL_book.cls ≠ "java/lang/invoke/VarHandle" ∧ (parseMethodDescriptor yL_book.desc).map (fun d => d.parameters.length) = some 4 := by decide +kernel
theorem lw_forget {b n : Nat} {x5 x6 : Option Value} : ∀ (i : Nat) (v : Value), ([some (.retAddr b), some (.ref 0), some (.ref 44), some (.ref 65), some (.int (nI (4 * n))), none, none] : pL)[i]? = some (some v) → ([some (.retAddr b), some (.ref 0), some (.ref 44), some (.ref 65), some (.int (nI (4 * n))), x5, x6] : pL)[i]? = some (some v) := by
  intro i v h
  match i, h with
  | 0, h => exact h
  | 1, h => exact h
  | 2, h => exact h
  | 3, h => exact h
  | 4, h => exact h
  | 5, h => cases h
  | 6, h => cases h
