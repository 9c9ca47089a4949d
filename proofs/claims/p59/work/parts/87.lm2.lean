abbrev rm_L_areMissing : Room := { frames := 11, cells := 0, slots := 0, locals := 205 }
theorem yd_L_areMissing : yL_areMissing.cls = RL ∧ yL_areMissing.cls ≠ "java/lang/invoke/MethodHandle" ∧ yL_areMissing.cls ≠ "java/lang/invoke/VarHandle" ∧ (parseMethodDescriptor yL_areMissing.desc).map (fun d => d.parameters.length) = some 1 := by decide +kernel
abbrev rm_L_areDistributed : Room := { frames := 11, cells := 0, slots := 0, locals := 205 }
theorem yd_L_areDistributed : yL_areDistributed.cls = RL ∧ yL_areDistributed.cls ≠ "java/lang/invoke/MethodHandle" ∧ yL_areDistributed.cls ≠ "java/lang/invoke/VarHandle" ∧ (parseMethodDescriptor yL_areDistributed.desc).map (fun d => d.parameters.length) = some 1 := by decide +kernel
abbrev rm_L_areCounted : Room := { frames := 11, cells := 0, slots := 0, locals := 205 }
theorem yd_L_areCounted : yL_areCounted.cls = RL ∧ yL_areCounted.cls ≠ "java/lang/invoke/MethodHandle" ∧ yL_areCounted.cls ≠ "java/lang/invoke/VarHandle" ∧ (parseMethodDescriptor yL_areCounted.desc).map (fun d => d.parameters.length) = some 0 := by decide +kernel
