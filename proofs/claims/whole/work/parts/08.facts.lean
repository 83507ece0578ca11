theorem cl_36 : (36 : Int32).toNatClampNeg = 36 := by decide +kernel
theorem cl_37 : (37 : Int32).toNatClampNeg = 37 := by decide +kernel
theorem cl_38 : (38 : Int32).toNatClampNeg = 38 := by decide +kernel
theorem cl_39 : (39 : Int32).toNatClampNeg = 39 := by decide +kernel
theorem cl_40 : (40 : Int32).toNatClampNeg = 40 := by decide +kernel
theorem cl_41 : (41 : Int32).toNatClampNeg = 41 := by decide +kernel
theorem cl_42 : (42 : Int32).toNatClampNeg = 42 := by decide +kernel
theorem cl_46 : (46 : Int32).toNatClampNeg = 46 := by decide +kernel
theorem cl_47 : (47 : Int32).toNatClampNeg = 47 := by decide +kernel
theorem cl_48 : (48 : Int32).toNatClampNeg = 48 := by decide +kernel
theorem cl_52 : (52 : Int32).toNatClampNeg = 52 := by decide +kernel
theorem cl_53 : (53 : Int32).toNatClampNeg = 53 := by decide +kernel
theorem cl_54 : (54 : Int32).toNatClampNeg = 54 := by decide +kernel
theorem vi_36_55 : vp_in (36 : Int32) 55 := vin_c (by decide +kernel)
theorem vi_37_55 : vp_in (37 : Int32) 55 := vin_c (by decide +kernel)
theorem vi_38_55 : vp_in (38 : Int32) 55 := vin_c (by decide +kernel)
theorem vi_39_55 : vp_in (39 : Int32) 55 := vin_c (by decide +kernel)
theorem vi_40_55 : vp_in (40 : Int32) 55 := vin_c (by decide +kernel)
theorem vi_41_55 : vp_in (41 : Int32) 55 := vin_c (by decide +kernel)
theorem vi_42_55 : vp_in (42 : Int32) 55 := vin_c (by decide +kernel)
theorem vi_46_55 : vp_in (46 : Int32) 55 := vin_c (by decide +kernel)
theorem vi_47_55 : vp_in (47 : Int32) 55 := vin_c (by decide +kernel)
theorem vi_48_55 : vp_in (48 : Int32) 55 := vin_c (by decide +kernel)
theorem vi_52_55 : vp_in (52 : Int32) 55 := vin_c (by decide +kernel)
theorem vi_53_55 : vp_in (53 : Int32) 55 := vin_c (by decide +kernel)
theorem vi_54_55 : vp_in (54 : Int32) 55 := vin_c (by decide +kernel)
