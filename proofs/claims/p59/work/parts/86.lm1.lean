abbrev rm_L_next : Room := { frames := 0, cells := 0, slots := 0, locals := 0 }
theorem yd_L_next : yL_next.cls = RL ∧ yL_next.cls ≠ "java/lang/invoke/MethodHandle" ∧ yL_next.cls ≠ "java/lang/invoke/VarHandle" ∧ (parseMethodDescriptor yL_next.desc).map (fun d => d.parameters.length) = some 1 := by decide +kernel
abbrev rm_L_word : Room := { frames := 1, cells := 0, slots := 0, locals := 21 }
theorem yd_L_word : yL_word.cls = RL ∧ yL_word.cls ≠ "java/lang/invoke/MethodHandle" ∧ yL_word.cls ≠ "java/lang/invoke/VarHandle" ∧ (parseMethodDescriptor yL_word.desc).map (fun d => d.parameters.length) = some 0 := by decide +kernel
abbrev rm_L_number : Room := { frames := 1, cells := 0, slots := 0, locals := 23 }
theorem yd_L_number : yL_number.cls = RL ∧ yL_number.cls ≠ "java/lang/invoke/MethodHandle" ∧ yL_number.cls ≠ "java/lang/invoke/VarHandle" ∧ (parseMethodDescriptor yL_number.desc).map (fun d => d.parameters.length) = some 0 := by decide +kernel
abbrev rm_L_copies : Room := { frames := 10, cells := 0, slots := 0, locals := 182 }
theorem yd_L_copies : yL_copies.cls = RL ∧ yL_copies.cls ≠ "java/lang/invoke/MethodHandle" ∧ yL_copies.cls ≠ "java/lang/invoke/VarHandle" ∧ (parseMethodDescriptor yL_copies.desc).map (fun d => d.parameters.length) = some 3 := by decide +kernel
abbrev rm_L_isMade : Room := { frames := 9, cells := 0, slots := 0, locals := 157 }
theorem yd_L_isMade : yL_isMade.cls = RL ∧ yL_isMade.cls ≠ "java/lang/invoke/MethodHandle" ∧ yL_isMade.cls ≠ "java/lang/invoke/VarHandle" ∧ (parseMethodDescriptor yL_isMade.desc).map (fun d => d.parameters.length) = some 2 := by decide +kernel
abbrev rm_L_makes : Room := { frames := 10, cells := 0, slots := 0, locals := 183 }
theorem yd_L_makes : yL_makes.cls = RL ∧ yL_makes.cls ≠ "java/lang/invoke/MethodHandle" ∧ yL_makes.cls ≠ "java/lang/invoke/VarHandle" ∧ (parseMethodDescriptor yL_makes.desc).map (fun d => d.parameters.length) = some 1 := by decide +kernel
abbrev rm_L_areRead : Room := { frames := 9, cells := 0, slots := 0, locals := 157 }
theorem yd_L_areRead : yL_areRead.cls = RL ∧ yL_areRead.cls ≠ "java/lang/invoke/MethodHandle" ∧ yL_areRead.cls ≠ "java/lang/invoke/VarHandle" ∧ (parseMethodDescriptor yL_areRead.desc).map (fun d => d.parameters.length) = some 0 := by decide +kernel
