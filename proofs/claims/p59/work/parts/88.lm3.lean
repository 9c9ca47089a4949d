abbrev rm_L_isPart : Room := { frames := 10, cells := 0, slots := 0, locals := 182 }
theorem yd_L_isPart : yL_isPart.cls = RL ∧ yL_isPart.cls ≠ "java/lang/invoke/MethodHandle" ∧ yL_isPart.cls ≠ "java/lang/invoke/VarHandle" ∧ (parseMethodDescriptor yL_isPart.desc).map (fun d => d.parameters.length) = some 0 := by decide +kernel
abbrev rm_L_isBuilt : Room := { frames := 10, cells := 0, slots := 0, locals := 181 }
theorem yd_L_isBuilt : yL_isBuilt.cls = RL ∧ yL_isBuilt.cls ≠ "java/lang/invoke/MethodHandle" ∧ yL_isBuilt.cls ≠ "java/lang/invoke/VarHandle" ∧ (parseMethodDescriptor yL_isBuilt.desc).map (fun d => d.parameters.length) = some 1 := by decide +kernel
