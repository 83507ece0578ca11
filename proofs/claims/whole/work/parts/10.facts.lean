theorem cl_32 : (32 : Int32).toNatClampNeg = 32 := by decide +kernel
theorem cl_33 : (33 : Int32).toNatClampNeg = 33 := by decide +kernel
theorem cl_34 : (34 : Int32).toNatClampNeg = 34 := by decide +kernel
theorem cl_35 : (35 : Int32).toNatClampNeg = 35 := by decide +kernel
theorem cl_36 : (36 : Int32).toNatClampNeg = 36 := by decide +kernel
theorem cl_37 : (37 : Int32).toNatClampNeg = 37 := by decide +kernel
theorem cl_38 : (38 : Int32).toNatClampNeg = 38 := by decide +kernel
theorem cl_39 : (39 : Int32).toNatClampNeg = 39 := by decide +kernel
theorem cl_40 : (40 : Int32).toNatClampNeg = 40 := by decide +kernel
theorem cl_41 : (41 : Int32).toNatClampNeg = 41 := by decide +kernel
theorem cl_42 : (42 : Int32).toNatClampNeg = 42 := by decide +kernel
theorem cl_43 : (43 : Int32).toNatClampNeg = 43 := by decide +kernel
theorem cl_44 : (44 : Int32).toNatClampNeg = 44 := by decide +kernel
theorem cl_45 : (45 : Int32).toNatClampNeg = 45 := by decide +kernel
theorem cl_46 : (46 : Int32).toNatClampNeg = 46 := by decide +kernel
theorem cl_47 : (47 : Int32).toNatClampNeg = 47 := by decide +kernel
theorem cl_48 : (48 : Int32).toNatClampNeg = 48 := by decide +kernel
theorem cl_49 : (49 : Int32).toNatClampNeg = 49 := by decide +kernel
theorem cl_50 : (50 : Int32).toNatClampNeg = 50 := by decide +kernel
theorem cl_51 : (51 : Int32).toNatClampNeg = 51 := by decide +kernel
theorem cl_52 : (52 : Int32).toNatClampNeg = 52 := by decide +kernel
theorem cl_53 : (53 : Int32).toNatClampNeg = 53 := by decide +kernel
theorem cl_54 : (54 : Int32).toNatClampNeg = 54 := by decide +kernel
theorem vi_32_55 : vp_in (32 : Int32) 55 := vin_c (by decide +kernel)
theorem vi_33_55 : vp_in (33 : Int32) 55 := vin_c (by decide +kernel)
theorem vi_34_55 : vp_in (34 : Int32) 55 := vin_c (by decide +kernel)
theorem vi_35_55 : vp_in (35 : Int32) 55 := vin_c (by decide +kernel)
theorem vi_36_55 : vp_in (36 : Int32) 55 := vin_c (by decide +kernel)
theorem vi_37_55 : vp_in (37 : Int32) 55 := vin_c (by decide +kernel)
theorem vi_38_55 : vp_in (38 : Int32) 55 := vin_c (by decide +kernel)
theorem vi_39_55 : vp_in (39 : Int32) 55 := vin_c (by decide +kernel)
theorem vi_40_55 : vp_in (40 : Int32) 55 := vin_c (by decide +kernel)
theorem vi_41_55 : vp_in (41 : Int32) 55 := vin_c (by decide +kernel)
theorem vi_42_55 : vp_in (42 : Int32) 55 := vin_c (by decide +kernel)
theorem vi_43_55 : vp_in (43 : Int32) 55 := vin_c (by decide +kernel)
theorem vi_44_55 : vp_in (44 : Int32) 55 := vin_c (by decide +kernel)
theorem vi_45_55 : vp_in (45 : Int32) 55 := vin_c (by decide +kernel)
theorem vi_46_55 : vp_in (46 : Int32) 55 := vin_c (by decide +kernel)
theorem vi_47_55 : vp_in (47 : Int32) 55 := vin_c (by decide +kernel)
theorem vi_48_55 : vp_in (48 : Int32) 55 := vin_c (by decide +kernel)
theorem vi_49_55 : vp_in (49 : Int32) 55 := vin_c (by decide +kernel)
theorem vi_50_55 : vp_in (50 : Int32) 55 := vin_c (by decide +kernel)
theorem vi_51_55 : vp_in (51 : Int32) 55 := vin_c (by decide +kernel)
theorem vi_52_55 : vp_in (52 : Int32) 55 := vin_c (by decide +kernel)
theorem vi_53_55 : vp_in (53 : Int32) 55 := vin_c (by decide +kernel)
theorem vi_54_55 : vp_in (54 : Int32) 55 := vin_c (by decide +kernel)
theorem k_M_acted : yX3_acted.cls = "ShadowLatchesModel" ∧ yX3_acted.cls ≠ "java/lang/invoke/MethodHandle" ∧ yX3_acted.cls ≠ "java/lang/invoke/VarHandle" ∧ (parseMethodDescriptor yX3_acted.desc).map (fun d => d.parameters.length) = some 1 := by decide +kernel
theorem k_M_areWell : yX3_areWell.cls = "ShadowLatchesModel" ∧ yX3_areWell.cls ≠ "java/lang/invoke/MethodHandle" ∧ yX3_areWell.cls ≠ "java/lang/invoke/VarHandle" ∧ (parseMethodDescriptor yX3_areWell.desc).map (fun d => d.parameters.length) = some 2 := by decide +kernel
theorem k_M_begins : yX3_begins.cls = "ShadowLatchesModel" ∧ yX3_begins.cls ≠ "java/lang/invoke/MethodHandle" ∧ yX3_begins.cls ≠ "java/lang/invoke/VarHandle" ∧ (parseMethodDescriptor yX3_begins.desc).map (fun d => d.parameters.length) = some 1 := by decide +kernel
theorem k_M_brings : yX3_brings.cls = "ShadowLatchesModel" ∧ yX3_brings.cls ≠ "java/lang/invoke/MethodHandle" ∧ yX3_brings.cls ≠ "java/lang/invoke/VarHandle" ∧ (parseMethodDescriptor yX3_brings.desc).map (fun d => d.parameters.length) = some 3 := by decide +kernel
theorem k_M_cycles : yX3_cycles.cls = "ShadowLatchesModel" ∧ yX3_cycles.cls ≠ "java/lang/invoke/MethodHandle" ∧ yX3_cycles.cls ≠ "java/lang/invoke/VarHandle" ∧ (parseMethodDescriptor yX3_cycles.desc).map (fun d => d.parameters.length) = some 0 := by decide +kernel
theorem k_M_delayWith : yX3_delayWith.cls = "ShadowLatchesModel" ∧ yX3_delayWith.cls ≠ "java/lang/invoke/MethodHandle" ∧ yX3_delayWith.cls ≠ "java/lang/invoke/VarHandle" ∧ (parseMethodDescriptor yX3_delayWith.desc).map (fun d => d.parameters.length) = some 3 := by decide +kernel
theorem k_M_energySince : yX3_energySince.cls = "ShadowLatchesModel" ∧ yX3_energySince.cls ≠ "java/lang/invoke/MethodHandle" ∧ yX3_energySince.cls ≠ "java/lang/invoke/VarHandle" ∧ (parseMethodDescriptor yX3_energySince.desc).map (fun d => d.parameters.length) = some 1 := by decide +kernel
theorem k_M_fault : yX3_fault.cls = "ShadowLatchesModel" ∧ yX3_fault.cls ≠ "java/lang/invoke/MethodHandle" ∧ yX3_fault.cls ≠ "java/lang/invoke/VarHandle" ∧ (parseMethodDescriptor yX3_fault.desc).map (fun d => d.parameters.length) = some 0 := by decide +kernel
theorem k_M_has : yX3_has.cls ≠ "java/lang/invoke/MethodHandle" ∧ yX3_has.cls ≠ "java/lang/invoke/VarHandle" ∧ (parseMethodDescriptor yX3_has.desc).map (fun d => d.parameters.length) = some 2 := by decide +kernel
theorem k_M_in : yX3_in.cls ≠ "java/lang/invoke/MethodHandle" ∧ yX3_in.cls ≠ "java/lang/invoke/VarHandle" ∧ (parseMethodDescriptor yX3_in.desc).map (fun d => d.parameters.length) = some 3 := by decide +kernel
theorem k_M_isHere : yX3_isHere.cls = "ShadowLatchesModel" ∧ yX3_isHere.cls ≠ "java/lang/invoke/MethodHandle" ∧ yX3_isHere.cls ≠ "java/lang/invoke/VarHandle" ∧ (parseMethodDescriptor yX3_isHere.desc).map (fun d => d.parameters.length) = some 2 := by decide +kernel
theorem k_M_isLength : yX3_isLength.cls ≠ "java/lang/invoke/MethodHandle" ∧ yX3_isLength.cls ≠ "java/lang/invoke/VarHandle" ∧ (parseMethodDescriptor yX3_isLength.desc).map (fun d => d.parameters.length) = some 1 := by decide +kernel
theorem k_M_isPath : yX3_isPath.cls = "ShadowLatchesModel" ∧ yX3_isPath.cls ≠ "java/lang/invoke/MethodHandle" ∧ yX3_isPath.cls ≠ "java/lang/invoke/VarHandle" ∧ (parseMethodDescriptor yX3_isPath.desc).map (fun d => d.parameters.length) = some 1 := by decide +kernel
theorem k_M_isSetting : yX3_isSetting.cls ≠ "java/lang/invoke/MethodHandle" ∧ yX3_isSetting.cls ≠ "java/lang/invoke/VarHandle" ∧ (parseMethodDescriptor yX3_isSetting.desc).map (fun d => d.parameters.length) = some 2 := by decide +kernel
theorem k_M_isVoltage : yX3_isVoltage.cls ≠ "java/lang/invoke/MethodHandle" ∧ yX3_isVoltage.cls ≠ "java/lang/invoke/VarHandle" ∧ (parseMethodDescriptor yX3_isVoltage.desc).map (fun d => d.parameters.length) = some 1 := by decide +kernel
theorem k_M_looks : yX3_looks.cls = "ShadowLatchesModel" ∧ yX3_looks.cls ≠ "java/lang/invoke/MethodHandle" ∧ yX3_looks.cls ≠ "java/lang/invoke/VarHandle" ∧ (parseMethodDescriptor yX3_looks.desc).map (fun d => d.parameters.length) = some 0 := by decide +kernel
theorem k_M_many : yX3_many.cls ≠ "java/lang/invoke/MethodHandle" ∧ yX3_many.cls ≠ "java/lang/invoke/VarHandle" ∧ (parseMethodDescriptor yX3_many.desc).map (fun d => d.parameters.length) = some 1 := by decide +kernel
theorem k_M_pathsThat : yX3_pathsThat.cls = "ShadowLatchesModel" ∧ yX3_pathsThat.cls ≠ "java/lang/invoke/MethodHandle" ∧ yX3_pathsThat.cls ≠ "java/lang/invoke/VarHandle" ∧ (parseMethodDescriptor yX3_pathsThat.desc).map (fun d => d.parameters.length) = some 1 := by decide +kernel
theorem k_M_readsSet : yX3_readsSet.cls = "ShadowLatchesModel" ∧ yX3_readsSet.cls ≠ "java/lang/invoke/MethodHandle" ∧ yX3_readsSet.cls ≠ "java/lang/invoke/VarHandle" ∧ (parseMethodDescriptor yX3_readsSet.desc).map (fun d => d.parameters.length) = some 0 := by decide +kernel
theorem k_M_remember : yX3_remember.cls = "ShadowLatchesModel" ∧ yX3_remember.cls ≠ "java/lang/invoke/MethodHandle" ∧ yX3_remember.cls ≠ "java/lang/invoke/VarHandle" ∧ (parseMethodDescriptor yX3_remember.desc).map (fun d => d.parameters.length) = some 0 := by decide +kernel
theorem k_M_sets : yX3_sets.cls = "ShadowLatchesModel" ∧ yX3_sets.cls ≠ "java/lang/invoke/MethodHandle" ∧ yX3_sets.cls ≠ "java/lang/invoke/VarHandle" ∧ (parseMethodDescriptor yX3_sets.desc).map (fun d => d.parameters.length) = some 2 := by decide +kernel
theorem k_M_setsWith : yX3_setsWith.cls = "ShadowLatchesModel" ∧ yX3_setsWith.cls ≠ "java/lang/invoke/MethodHandle" ∧ yX3_setsWith.cls ≠ "java/lang/invoke/VarHandle" ∧ (parseMethodDescriptor yX3_setsWith.desc).map (fun d => d.parameters.length) = some 1 := by decide +kernel
theorem k_M_spends : yX3_spends.cls = "ShadowLatchesModel" ∧ yX3_spends.cls ≠ "java/lang/invoke/MethodHandle" ∧ yX3_spends.cls ≠ "java/lang/invoke/VarHandle" ∧ (parseMethodDescriptor yX3_spends.desc).map (fun d => d.parameters.length) = some 1 := by decide +kernel
theorem k_M_stateWith : yX3_stateWith.cls = "ShadowLatchesModel" ∧ yX3_stateWith.cls ≠ "java/lang/invoke/MethodHandle" ∧ yX3_stateWith.cls ≠ "java/lang/invoke/VarHandle" ∧ (parseMethodDescriptor yX3_stateWith.desc).map (fun d => d.parameters.length) = some 2 := by decide +kernel
theorem k_M_takes : yX3_takes.cls = "ShadowLatchesModel" ∧ yX3_takes.cls ≠ "java/lang/invoke/MethodHandle" ∧ yX3_takes.cls ≠ "java/lang/invoke/VarHandle" ∧ (parseMethodDescriptor yX3_takes.desc).map (fun d => d.parameters.length) = some 1 := by decide +kernel
theorem k_M_worstOf : yX3_worstOf.cls = "ShadowLatchesModel" ∧ yX3_worstOf.cls ≠ "java/lang/invoke/MethodHandle" ∧ yX3_worstOf.cls ≠ "java/lang/invoke/VarHandle" ∧ (parseMethodDescriptor yX3_worstOf.desc).map (fun d => d.parameters.length) = some 1 := by decide +kernel
