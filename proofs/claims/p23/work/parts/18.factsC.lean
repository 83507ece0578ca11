theorem cl_0 : (0 : Int32).toNatClampNeg = 0 := by decide +kernel
theorem cl_1 : (1 : Int32).toNatClampNeg = 1 := by decide +kernel
theorem cl_2 : (2 : Int32).toNatClampNeg = 2 := by decide +kernel
theorem cl_3 : (3 : Int32).toNatClampNeg = 3 := by decide +kernel
theorem cl_4 : (4 : Int32).toNatClampNeg = 4 := by decide +kernel
theorem cl_5 : (5 : Int32).toNatClampNeg = 5 := by decide +kernel
theorem cl_6 : (6 : Int32).toNatClampNeg = 6 := by decide +kernel
theorem vi_0_7 : vp_in (0 : Int32) 7 := vin_c (by decide +kernel)
theorem vi_0_16 : vp_in (0 : Int32) 16 := vin_c (by decide +kernel)
theorem vi_1_7 : vp_in (1 : Int32) 7 := vin_c (by decide +kernel)
theorem vi_2_7 : vp_in (2 : Int32) 7 := vin_c (by decide +kernel)
theorem vi_3_7 : vp_in (3 : Int32) 7 := vin_c (by decide +kernel)
theorem vi_4_7 : vp_in (4 : Int32) 7 := vin_c (by decide +kernel)
theorem vi_5_7 : vp_in (5 : Int32) 7 := vin_c (by decide +kernel)
theorem vi_6_7 : vp_in (6 : Int32) 7 := vin_c (by decide +kernel)
theorem k_J_bitCount : yJ6_bitCount_0f7a4.cls ≠ "java/lang/invoke/MethodHandle" ∧ yJ6_bitCount_0f7a4.cls ≠ "java/lang/invoke/VarHandle" ∧ (parseMethodDescriptor yJ6_bitCount_0f7a4.desc).map (fun d => d.parameters.length) = some 1 := by decide +kernel
theorem k_C_beginWindow : yX0_beginWindow.cls = "ShadowLatches$Circuit" ∧ yX0_beginWindow.cls ≠ "java/lang/invoke/MethodHandle" ∧ yX0_beginWindow.cls ≠ "java/lang/invoke/VarHandle" ∧ (parseMethodDescriptor yX0_beginWindow.desc).map (fun d => d.parameters.length) = some 0 := by decide +kernel
theorem k_C_changeHeat : yX0_changeHeat.cls = "ShadowLatches$Circuit" ∧ yX0_changeHeat.cls ≠ "java/lang/invoke/MethodHandle" ∧ yX0_changeHeat.cls ≠ "java/lang/invoke/VarHandle" ∧ (parseMethodDescriptor yX0_changeHeat.desc).map (fun d => d.parameters.length) = some 1 := by decide +kernel
theorem k_C_complain : yX0_complain.cls = "ShadowLatches$Circuit" ∧ yX0_complain.cls ≠ "java/lang/invoke/MethodHandle" ∧ yX0_complain.cls ≠ "java/lang/invoke/VarHandle" ∧ (parseMethodDescriptor yX0_complain.desc).map (fun d => d.parameters.length) = some 0 := by decide +kernel
theorem k_C_countUses : yX0_countUses.cls = "ShadowLatches$Circuit" ∧ yX0_countUses.cls ≠ "java/lang/invoke/MethodHandle" ∧ yX0_countUses.cls ≠ "java/lang/invoke/VarHandle" ∧ (parseMethodDescriptor yX0_countUses.desc).map (fun d => d.parameters.length) = some 1 := by decide +kernel
theorem k_C_delayNow : yX0_delayNow.cls = "ShadowLatches$Circuit" ∧ yX0_delayNow.cls ≠ "java/lang/invoke/MethodHandle" ∧ yX0_delayNow.cls ≠ "java/lang/invoke/VarHandle" ∧ (parseMethodDescriptor yX0_delayNow.desc).map (fun d => d.parameters.length) = some 1 := by decide +kernel
theorem k_C_delayOf : yX0_delayOf.cls ≠ "java/lang/invoke/MethodHandle" ∧ yX0_delayOf.cls ≠ "java/lang/invoke/VarHandle" ∧ (parseMethodDescriptor yX0_delayOf.desc).map (fun d => d.parameters.length) = some 3 := by decide +kernel
theorem k_C_judge : yX0_judge.cls = "ShadowLatches$Circuit" ∧ yX0_judge.cls ≠ "java/lang/invoke/MethodHandle" ∧ yX0_judge.cls ≠ "java/lang/invoke/VarHandle" ∧ (parseMethodDescriptor yX0_judge.desc).map (fun d => d.parameters.length) = some 1 := by decide +kernel
theorem k_C_longestOf : yX0_longestOf.cls = "ShadowLatches$Circuit" ∧ yX0_longestOf.cls ≠ "java/lang/invoke/MethodHandle" ∧ yX0_longestOf.cls ≠ "java/lang/invoke/VarHandle" ∧ (parseMethodDescriptor yX0_longestOf.desc).map (fun d => d.parameters.length) = some 1 := by decide +kernel
theorem k_C_lookAtWindow : yX0_lookAtWindow.cls = "ShadowLatches$Circuit" ∧ yX0_lookAtWindow.cls ≠ "java/lang/invoke/MethodHandle" ∧ yX0_lookAtWindow.cls ≠ "java/lang/invoke/VarHandle" ∧ (parseMethodDescriptor yX0_lookAtWindow.desc).map (fun d => d.parameters.length) = some 0 := by decide +kernel
theorem k_C_runOneCycle : yX0_runOneCycle.cls = "ShadowLatches$Circuit" ∧ yX0_runOneCycle.cls ≠ "java/lang/invoke/MethodHandle" ∧ yX0_runOneCycle.cls ≠ "java/lang/invoke/VarHandle" ∧ (parseMethodDescriptor yX0_runOneCycle.desc).map (fun d => d.parameters.length) = some 0 := by decide +kernel
theorem k_C_spendCycle : yX0_spendCycle.cls = "ShadowLatches$Circuit" ∧ yX0_spendCycle.cls ≠ "java/lang/invoke/MethodHandle" ∧ yX0_spendCycle.cls ≠ "java/lang/invoke/VarHandle" ∧ (parseMethodDescriptor yX0_spendCycle.desc).map (fun d => d.parameters.length) = some 1 := by decide +kernel
