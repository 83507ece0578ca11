theorem dX2_init_8 : decode cX2_init 8 = .ok (.dup, 1) := by decide +kernel
theorem dX2_init_9 : decode cX2_init 9 = .ok (.invokespecial 9, 3) := by decide +kernel
theorem dX2_init_12 : decode cX2_init 12 = .ok (.putfield 10, 3) := by decide +kernel
theorem dX2_init_15 : decode cX2_init 15 = .ok (.aload_n 0, 1) := by decide +kernel
theorem dX2_init_16 : decode cX2_init 16 = .ok (.new 7, 3) := by decide +kernel
theorem dX2_init_19 : decode cX2_init 19 = .ok (.dup, 1) := by decide +kernel
theorem dX2_init_20 : decode cX2_init 20 = .ok (.invokespecial 9, 3) := by decide +kernel
theorem dX2_init_23 : decode cX2_init 23 = .ok (.putfield 16, 3) := by decide +kernel
theorem dX2_init_26 : decode cX2_init 26 = .ok (.aload_n 0, 1) := by decide +kernel
theorem dX2_init_27 : decode cX2_init 27 = .ok (.new 7, 3) := by decide +kernel
theorem dX2_init_30 : decode cX2_init 30 = .ok (.dup, 1) := by decide +kernel
theorem dX2_init_31 : decode cX2_init 31 = .ok (.invokespecial 9, 3) := by decide +kernel
theorem dX2_init_34 : decode cX2_init 34 = .ok (.putfield 19, 3) := by decide +kernel
theorem dX2_init_37 : decode cX2_init 37 = .ok (.aload_n 0, 1) := by decide +kernel
theorem dX2_init_38 : decode cX2_init 38 = .ok (.iconst 4, 1) := by decide +kernel
theorem dX2_init_39 : decode cX2_init 39 = .ok (.anewarray 7, 3) := by decide +kernel
theorem dX2_init_42 : decode cX2_init 42 = .ok (.putfield 22, 3) := by decide +kernel
theorem dX2_init_45 : decode cX2_init 45 = .ok (.iconst 0, 1) := by decide +kernel
theorem dX2_init_46 : decode cX2_init 46 = .ok (.istore_n 1, 1) := by decide +kernel
theorem dX2_init_47 : decode cX2_init 47 = .ok (.iload_n 1, 1) := by decide +kernel
theorem dX2_init_48 : decode cX2_init 48 = .ok (.iconst 4, 1) := by decide +kernel
theorem dX2_init_49 : decode cX2_init 49 = .ok (.if_icmp .ge 22, 3) := by decide +kernel
theorem dX2_init_52 : decode cX2_init 52 = .ok (.aload_n 0, 1) := by decide +kernel
theorem dX2_init_53 : decode cX2_init 53 = .ok (.getfield 22, 3) := by decide +kernel
theorem dX2_init_56 : decode cX2_init 56 = .ok (.iload_n 1, 1) := by decide +kernel
theorem dX2_init_57 : decode cX2_init 57 = .ok (.new 7, 3) := by decide +kernel
theorem dX2_init_60 : decode cX2_init 60 = .ok (.dup, 1) := by decide +kernel
theorem dX2_init_61 : decode cX2_init 61 = .ok (.invokespecial 9, 3) := by decide +kernel
theorem dX2_init_64 : decode cX2_init 64 = .ok (.aastore, 1) := by decide +kernel
theorem dX2_init_65 : decode cX2_init 65 = .ok (.iinc 1 1, 3) := by decide +kernel
theorem dX2_init_68 : decode cX2_init 68 = .ok (.goto (-21), 3) := by decide +kernel
theorem dX2_init_71 : decode cX2_init 71 = .ok (.aload_n 0, 1) := by decide +kernel
theorem dX2_init_72 : decode cX2_init 72 = .ok (.new 26, 3) := by decide +kernel
theorem dX2_init_75 : decode cX2_init 75 = .ok (.dup, 1) := by decide +kernel
theorem dX2_init_76 : decode cX2_init 76 = .ok (.invokespecial 28, 3) := by decide +kernel
theorem dX2_init_79 : decode cX2_init 79 = .ok (.putfield 29, 3) := by decide +kernel
theorem dX2_init_82 : decode cX2_init 82 = .ok (.return_, 1) := by decide +kernel
theorem dX2_addPath_0 : decode cX2_addPath 0 = .ok (.iload_n 1, 1) := by decide +kernel
theorem dX2_addPath_1 : decode cX2_addPath 1 = .ok (.invokestatic 33, 3) := by decide +kernel
theorem dX2_addPath_4 : decode cX2_addPath 4 = .ok (.ifCond .ne 6, 3) := by decide +kernel
theorem dX2_addPath_7 : decode cX2_addPath 7 = .ok (.bipush (-2), 2) := by decide +kernel
theorem dX2_addPath_9 : decode cX2_addPath 9 = .ok (.ireturn, 1) := by decide +kernel
theorem dX2_addPath_10 : decode cX2_addPath 10 = .ok (.aload_n 0, 1) := by decide +kernel
theorem dX2_addPath_11 : decode cX2_addPath 11 = .ok (.getfield 10, 3) := by decide +kernel
theorem dX2_addPath_14 : decode cX2_addPath 14 = .ok (.getfield 37, 3) := by decide +kernel
theorem dX2_addPath_17 : decode cX2_addPath 17 = .ok (.bipush 8, 2) := by decide +kernel
theorem dX2_addPath_19 : decode cX2_addPath 19 = .ok (.if_icmp .lt 6, 3) := by decide +kernel
theorem dX2_addPath_22 : decode cX2_addPath 22 = .ok (.bipush (-3), 2) := by decide +kernel
theorem dX2_addPath_24 : decode cX2_addPath 24 = .ok (.ireturn, 1) := by decide +kernel
theorem dX2_addPath_25 : decode cX2_addPath 25 = .ok (.aload_n 0, 1) := by decide +kernel
theorem dX2_addPath_26 : decode cX2_addPath 26 = .ok (.invokevirtual 41, 3) := by decide +kernel
theorem dX2_addPath_29 : decode cX2_addPath 29 = .ok (.aload_n 0, 1) := by decide +kernel
theorem dX2_addPath_30 : decode cX2_addPath 30 = .ok (.getfield 10, 3) := by decide +kernel
theorem dX2_addPath_33 : decode cX2_addPath 33 = .ok (.getfield 37, 3) := by decide +kernel
theorem dX2_addPath_36 : decode cX2_addPath 36 = .ok (.istore_n 2, 1) := by decide +kernel
theorem dX2_addPath_37 : decode cX2_addPath 37 = .ok (.aload_n 0, 1) := by decide +kernel
theorem dX2_addPath_38 : decode cX2_addPath 38 = .ok (.getfield 10, 3) := by decide +kernel
theorem dX2_addPath_41 : decode cX2_addPath 41 = .ok (.getfield 44, 3) := by decide +kernel
theorem dX2_addPath_44 : decode cX2_addPath 44 = .ok (.iload_n 2, 1) := by decide +kernel
theorem dX2_addPath_45 : decode cX2_addPath 45 = .ok (.iload_n 1, 1) := by decide +kernel
theorem dX2_addPath_46 : decode cX2_addPath 46 = .ok (.iastore, 1) := by decide +kernel
theorem dX2_addPath_47 : decode cX2_addPath 47 = .ok (.aload_n 0, 1) := by decide +kernel
theorem dX2_addPath_48 : decode cX2_addPath 48 = .ok (.getfield 10, 3) := by decide +kernel
theorem dX2_addPath_51 : decode cX2_addPath 51 = .ok (.iload_n 2, 1) := by decide +kernel
theorem dX2_addPath_52 : decode cX2_addPath 52 = .ok (.iconst 1, 1) := by decide +kernel
theorem dX2_addPath_53 : decode cX2_addPath 53 = .ok (.iadd, 1) := by decide +kernel
theorem dX2_addPath_54 : decode cX2_addPath 54 = .ok (.putfield 37, 3) := by decide +kernel
theorem dX2_addPath_57 : decode cX2_addPath 57 = .ok (.iload_n 2, 1) := by decide +kernel
theorem dX2_addPath_58 : decode cX2_addPath 58 = .ok (.ireturn, 1) := by decide +kernel
theorem dX2_setLength_0 : decode cX2_setLength 0 = .ok (.aload_n 0, 1) := by decide +kernel
theorem dX2_setLength_1 : decode cX2_setLength 1 = .ok (.iload_n 1, 1) := by decide +kernel
theorem dX2_setLength_2 : decode cX2_setLength 2 = .ok (.invokevirtual 48, 3) := by decide +kernel
theorem dX2_setLength_5 : decode cX2_setLength 5 = .ok (.ifCond .ne 5, 3) := by decide +kernel
theorem dX2_setLength_8 : decode cX2_setLength 8 = .ok (.iconst (-1), 1) := by decide +kernel
theorem dX2_setLength_9 : decode cX2_setLength 9 = .ok (.ireturn, 1) := by decide +kernel
theorem dX2_setLength_10 : decode cX2_setLength 10 = .ok (.iload_n 2, 1) := by decide +kernel
theorem dX2_setLength_11 : decode cX2_setLength 11 = .ok (.invokestatic 33, 3) := by decide +kernel
theorem dX2_setLength_14 : decode cX2_setLength 14 = .ok (.ifCond .ne 6, 3) := by decide +kernel
theorem dX2_setLength_17 : decode cX2_setLength 17 = .ok (.bipush (-2), 2) := by decide +kernel
theorem dX2_setLength_19 : decode cX2_setLength 19 = .ok (.ireturn, 1) := by decide +kernel
theorem dX2_setLength_20 : decode cX2_setLength 20 = .ok (.aload_n 0, 1) := by decide +kernel
theorem dX2_setLength_21 : decode cX2_setLength 21 = .ok (.getfield 10, 3) := by decide +kernel
theorem dX2_setLength_24 : decode cX2_setLength 24 = .ok (.getfield 44, 3) := by decide +kernel
theorem dX2_setLength_27 : decode cX2_setLength 27 = .ok (.iload_n 1, 1) := by decide +kernel
theorem dX2_setLength_28 : decode cX2_setLength 28 = .ok (.iaload, 1) := by decide +kernel
theorem dX2_setLength_29 : decode cX2_setLength 29 = .ok (.istore_n 3, 1) := by decide +kernel
theorem dX2_setLength_30 : decode cX2_setLength 30 = .ok (.iload_n 3, 1) := by decide +kernel
theorem dX2_setLength_31 : decode cX2_setLength 31 = .ok (.iload_n 2, 1) := by decide +kernel
theorem dX2_setLength_32 : decode cX2_setLength 32 = .ok (.if_icmp .ne 6, 3) := by decide +kernel
theorem dX2_setLength_35 : decode cX2_setLength 35 = .ok (.bipush (-5), 2) := by decide +kernel
theorem dX2_setLength_37 : decode cX2_setLength 37 = .ok (.ireturn, 1) := by decide +kernel
theorem dX2_setLength_38 : decode cX2_setLength 38 = .ok (.aload_n 0, 1) := by decide +kernel
theorem dX2_setLength_39 : decode cX2_setLength 39 = .ok (.invokevirtual 41, 3) := by decide +kernel
theorem dX2_setLength_42 : decode cX2_setLength 42 = .ok (.aload_n 0, 1) := by decide +kernel
theorem dX2_setLength_43 : decode cX2_setLength 43 = .ok (.getfield 10, 3) := by decide +kernel
theorem dX2_setLength_46 : decode cX2_setLength 46 = .ok (.getfield 44, 3) := by decide +kernel
theorem dX2_setLength_49 : decode cX2_setLength 49 = .ok (.iload_n 1, 1) := by decide +kernel
theorem dX2_setLength_50 : decode cX2_setLength 50 = .ok (.iload_n 2, 1) := by decide +kernel
theorem dX2_setLength_51 : decode cX2_setLength 51 = .ok (.iastore, 1) := by decide +kernel
theorem dX2_setLength_52 : decode cX2_setLength 52 = .ok (.iload_n 3, 1) := by decide +kernel
theorem dX2_setLength_53 : decode cX2_setLength 53 = .ok (.ireturn, 1) := by decide +kernel
theorem dX2_takeWorkload_0 : decode cX2_takeWorkload 0 = .ok (.aload_n 0, 1) := by decide +kernel
theorem dX2_takeWorkload_1 : decode cX2_takeWorkload 1 = .ok (.getfield 29, 3) := by decide +kernel
theorem dX2_takeWorkload_4 : decode cX2_takeWorkload 4 = .ok (.invokevirtual 51, 3) := by decide +kernel
theorem dX2_takeWorkload_7 : decode cX2_takeWorkload 7 = .ok (.istore_n 1, 1) := by decide +kernel
theorem dX2_takeWorkload_8 : decode cX2_takeWorkload 8 = .ok (.iload_n 1, 1) := by decide +kernel
theorem dX2_takeWorkload_9 : decode cX2_takeWorkload 9 = .ok (.iconst (-1), 1) := by decide +kernel
theorem dX2_takeWorkload_10 : decode cX2_takeWorkload 10 = .ok (.if_icmp .eq 8, 3) := by decide +kernel
theorem dX2_takeWorkload_13 : decode cX2_takeWorkload 13 = .ok (.bipush (-100), 2) := by decide +kernel
theorem dX2_takeWorkload_15 : decode cX2_takeWorkload 15 = .ok (.iload_n 1, 1) := by decide +kernel
theorem dX2_takeWorkload_16 : decode cX2_takeWorkload 16 = .ok (.isub, 1) := by decide +kernel
theorem dX2_takeWorkload_17 : decode cX2_takeWorkload 17 = .ok (.ireturn, 1) := by decide +kernel
theorem dX2_takeWorkload_18 : decode cX2_takeWorkload 18 = .ok (.iconst 0, 1) := by decide +kernel
theorem dX2_takeWorkload_19 : decode cX2_takeWorkload 19 = .ok (.istore_n 2, 1) := by decide +kernel
theorem dX2_takeWorkload_20 : decode cX2_takeWorkload 20 = .ok (.iload_n 2, 1) := by decide +kernel
theorem dX2_takeWorkload_21 : decode cX2_takeWorkload 21 = .ok (.aload_n 0, 1) := by decide +kernel
theorem dX2_takeWorkload_22 : decode cX2_takeWorkload 22 = .ok (.getfield 29, 3) := by decide +kernel
theorem dX2_takeWorkload_25 : decode cX2_takeWorkload 25 = .ok (.getfield 55, 3) := by decide +kernel
theorem dX2_takeWorkload_28 : decode cX2_takeWorkload 28 = .ok (.if_icmp .ge 32, 3) := by decide +kernel
theorem dX2_takeWorkload_31 : decode cX2_takeWorkload 31 = .ok (.aload_n 0, 1) := by decide +kernel
theorem dX2_takeWorkload_32 : decode cX2_takeWorkload 32 = .ok (.getfield 29, 3) := by decide +kernel
theorem dX2_takeWorkload_35 : decode cX2_takeWorkload 35 = .ok (.getfield 58, 3) := by decide +kernel
theorem dX2_takeWorkload_38 : decode cX2_takeWorkload 38 = .ok (.iload_n 2, 1) := by decide +kernel
theorem dX2_takeWorkload_39 : decode cX2_takeWorkload 39 = .ok (.iaload, 1) := by decide +kernel
theorem dX2_takeWorkload_40 : decode cX2_takeWorkload 40 = .ok (.iconst 1, 1) := by decide +kernel
theorem dX2_takeWorkload_41 : decode cX2_takeWorkload 41 = .ok (.aload_n 0, 1) := by decide +kernel
theorem dX2_takeWorkload_42 : decode cX2_takeWorkload 42 = .ok (.getfield 10, 3) := by decide +kernel
theorem dX2_takeWorkload_45 : decode cX2_takeWorkload 45 = .ok (.getfield 37, 3) := by decide +kernel
theorem dX2_takeWorkload_48 : decode cX2_takeWorkload 48 = .ok (.ishl, 1) := by decide +kernel
theorem dX2_takeWorkload_49 : decode cX2_takeWorkload 49 = .ok (.if_icmp .lt 5, 3) := by decide +kernel
theorem dX2_takeWorkload_52 : decode cX2_takeWorkload 52 = .ok (.iconst (-1), 1) := by decide +kernel
theorem dX2_takeWorkload_53 : decode cX2_takeWorkload 53 = .ok (.ireturn, 1) := by decide +kernel
theorem dX2_takeWorkload_54 : decode cX2_takeWorkload 54 = .ok (.iinc 2 1, 3) := by decide +kernel
theorem dX2_takeWorkload_57 : decode cX2_takeWorkload 57 = .ok (.goto (-37), 3) := by decide +kernel
theorem dX2_takeWorkload_60 : decode cX2_takeWorkload 60 = .ok (.aload_n 0, 1) := by decide +kernel
theorem dX2_takeWorkload_61 : decode cX2_takeWorkload 61 = .ok (.invokevirtual 41, 3) := by decide +kernel
theorem dX2_takeWorkload_64 : decode cX2_takeWorkload 64 = .ok (.iconst 0, 1) := by decide +kernel
theorem dX2_takeWorkload_65 : decode cX2_takeWorkload 65 = .ok (.istore_n 2, 1) := by decide +kernel
theorem dX2_takeWorkload_66 : decode cX2_takeWorkload 66 = .ok (.iload_n 2, 1) := by decide +kernel
theorem dX2_takeWorkload_67 : decode cX2_takeWorkload 67 = .ok (.aload_n 0, 1) := by decide +kernel
theorem dX2_takeWorkload_68 : decode cX2_takeWorkload 68 = .ok (.getfield 29, 3) := by decide +kernel
theorem dX2_takeWorkload_71 : decode cX2_takeWorkload 71 = .ok (.getfield 55, 3) := by decide +kernel
theorem dX2_takeWorkload_74 : decode cX2_takeWorkload 74 = .ok (.if_icmp .ge 27, 3) := by decide +kernel
theorem dX2_takeWorkload_77 : decode cX2_takeWorkload 77 = .ok (.aload_n 0, 1) := by decide +kernel
theorem dX2_takeWorkload_78 : decode cX2_takeWorkload 78 = .ok (.getfield 10, 3) := by decide +kernel
theorem dX2_takeWorkload_81 : decode cX2_takeWorkload 81 = .ok (.getfield 61, 3) := by decide +kernel
theorem dX2_takeWorkload_84 : decode cX2_takeWorkload 84 = .ok (.iload_n 2, 1) := by decide +kernel
theorem dX2_takeWorkload_85 : decode cX2_takeWorkload 85 = .ok (.aload_n 0, 1) := by decide +kernel
theorem dX2_takeWorkload_86 : decode cX2_takeWorkload 86 = .ok (.getfield 29, 3) := by decide +kernel
theorem dX2_takeWorkload_89 : decode cX2_takeWorkload 89 = .ok (.getfield 58, 3) := by decide +kernel
theorem dX2_takeWorkload_92 : decode cX2_takeWorkload 92 = .ok (.iload_n 2, 1) := by decide +kernel
theorem dX2_takeWorkload_93 : decode cX2_takeWorkload 93 = .ok (.iaload, 1) := by decide +kernel
theorem dX2_takeWorkload_94 : decode cX2_takeWorkload 94 = .ok (.iastore, 1) := by decide +kernel
theorem dX2_takeWorkload_95 : decode cX2_takeWorkload 95 = .ok (.iinc 2 1, 3) := by decide +kernel
theorem dX2_takeWorkload_98 : decode cX2_takeWorkload 98 = .ok (.goto (-32), 3) := by decide +kernel
theorem dX2_takeWorkload_101 : decode cX2_takeWorkload 101 = .ok (.aload_n 0, 1) := by decide +kernel
theorem dX2_takeWorkload_102 : decode cX2_takeWorkload 102 = .ok (.getfield 10, 3) := by decide +kernel
theorem dX2_takeWorkload_105 : decode cX2_takeWorkload 105 = .ok (.aload_n 0, 1) := by decide +kernel
theorem dX2_takeWorkload_106 : decode cX2_takeWorkload 106 = .ok (.getfield 29, 3) := by decide +kernel
theorem dX2_takeWorkload_109 : decode cX2_takeWorkload 109 = .ok (.getfield 55, 3) := by decide +kernel
theorem dX2_takeWorkload_112 : decode cX2_takeWorkload 112 = .ok (.invokevirtual 62, 3) := by decide +kernel
theorem dX2_takeWorkload_115 : decode cX2_takeWorkload 115 = .ok (.aload_n 0, 1) := by decide +kernel
theorem dX2_takeWorkload_116 : decode cX2_takeWorkload 116 = .ok (.getfield 29, 3) := by decide +kernel
theorem dX2_takeWorkload_119 : decode cX2_takeWorkload 119 = .ok (.getfield 55, 3) := by decide +kernel
theorem dX2_takeWorkload_122 : decode cX2_takeWorkload 122 = .ok (.ireturn, 1) := by decide +kernel
theorem dX2_setVoltage_0 : decode cX2_setVoltage 0 = .ok (.iload_n 1, 1) := by decide +kernel
theorem dX2_setVoltage_1 : decode cX2_setVoltage 1 = .ok (.invokestatic 76, 3) := by decide +kernel
theorem dX2_setVoltage_4 : decode cX2_setVoltage 4 = .ok (.ifCond .ne 6, 3) := by decide +kernel
theorem dX2_setVoltage_7 : decode cX2_setVoltage 7 = .ok (.bipush (-2), 2) := by decide +kernel
theorem dX2_setVoltage_9 : decode cX2_setVoltage 9 = .ok (.ireturn, 1) := by decide +kernel
theorem dX2_setVoltage_10 : decode cX2_setVoltage 10 = .ok (.aload_n 0, 1) := by decide +kernel
theorem dX2_setVoltage_11 : decode cX2_setVoltage 11 = .ok (.getfield 10, 3) := by decide +kernel
theorem dX2_setVoltage_14 : decode cX2_setVoltage 14 = .ok (.getfield 79, 3) := by decide +kernel
theorem dX2_setVoltage_17 : decode cX2_setVoltage 17 = .ok (.istore_n 2, 1) := by decide +kernel
theorem dX2_setVoltage_18 : decode cX2_setVoltage 18 = .ok (.iload_n 2, 1) := by decide +kernel
theorem dX2_setVoltage_19 : decode cX2_setVoltage 19 = .ok (.iload_n 1, 1) := by decide +kernel
theorem dX2_setVoltage_20 : decode cX2_setVoltage 20 = .ok (.if_icmp .ne 6, 3) := by decide +kernel
theorem dX2_setVoltage_23 : decode cX2_setVoltage 23 = .ok (.bipush (-5), 2) := by decide +kernel
theorem dX2_setVoltage_25 : decode cX2_setVoltage 25 = .ok (.ireturn, 1) := by decide +kernel
theorem dX2_setVoltage_26 : decode cX2_setVoltage 26 = .ok (.aload_n 0, 1) := by decide +kernel
theorem dX2_setVoltage_27 : decode cX2_setVoltage 27 = .ok (.invokevirtual 41, 3) := by decide +kernel
theorem dX2_setVoltage_30 : decode cX2_setVoltage 30 = .ok (.aload_n 0, 1) := by decide +kernel
theorem dX2_setVoltage_31 : decode cX2_setVoltage 31 = .ok (.getfield 10, 3) := by decide +kernel
theorem dX2_setVoltage_34 : decode cX2_setVoltage 34 = .ok (.iload_n 1, 1) := by decide +kernel
theorem dX2_setVoltage_35 : decode cX2_setVoltage 35 = .ok (.putfield 79, 3) := by decide +kernel
theorem dX2_setVoltage_38 : decode cX2_setVoltage 38 = .ok (.iload_n 2, 1) := by decide +kernel
theorem dX2_setVoltage_39 : decode cX2_setVoltage 39 = .ok (.ireturn, 1) := by decide +kernel
theorem dX2_govern_0 : decode cX2_govern 0 = .ok (.aload_n 0, 1) := by decide +kernel
theorem dX2_govern_1 : decode cX2_govern 1 = .ok (.getfield 10, 3) := by decide +kernel
theorem dX2_govern_4 : decode cX2_govern 4 = .ok (.getfield 82, 3) := by decide +kernel
theorem dX2_govern_7 : decode cX2_govern 7 = .ok (.iload_n 1, 1) := by decide +kernel
theorem dX2_govern_8 : decode cX2_govern 8 = .ok (.if_icmp .ne 6, 3) := by decide +kernel
theorem dX2_govern_11 : decode cX2_govern 11 = .ok (.bipush (-5), 2) := by decide +kernel
theorem dX2_govern_13 : decode cX2_govern 13 = .ok (.ireturn, 1) := by decide +kernel
theorem dX2_govern_14 : decode cX2_govern 14 = .ok (.aload_n 0, 1) := by decide +kernel
theorem dX2_govern_15 : decode cX2_govern 15 = .ok (.invokevirtual 41, 3) := by decide +kernel
theorem dX2_govern_18 : decode cX2_govern 18 = .ok (.aload_n 0, 1) := by decide +kernel
theorem dX2_govern_19 : decode cX2_govern 19 = .ok (.getfield 10, 3) := by decide +kernel
theorem dX2_govern_22 : decode cX2_govern 22 = .ok (.iload_n 1, 1) := by decide +kernel
theorem dX2_govern_23 : decode cX2_govern 23 = .ok (.putfield 82, 3) := by decide +kernel
theorem dX2_govern_26 : decode cX2_govern 26 = .ok (.aload_n 0, 1) := by decide +kernel
theorem dX2_govern_27 : decode cX2_govern 27 = .ok (.getfield 10, 3) := by decide +kernel
theorem dX2_govern_30 : decode cX2_govern 30 = .ok (.invokevirtual 86, 3) := by decide +kernel
theorem dX2_govern_33 : decode cX2_govern 33 = .ok (.aload_n 0, 1) := by decide +kernel
theorem dX2_govern_34 : decode cX2_govern 34 = .ok (.getfield 10, 3) := by decide +kernel
theorem dX2_govern_37 : decode cX2_govern 37 = .ok (.getfield 79, 3) := by decide +kernel
theorem dX2_govern_40 : decode cX2_govern 40 = .ok (.ireturn, 1) := by decide +kernel
theorem dX2_set_0 : decode cX2_set 0 = .ok (.iload_n 1, 1) := by decide +kernel
theorem dX2_set_1 : decode cX2_set 1 = .ok (.iconst 0, 1) := by decide +kernel
theorem dX2_set_2 : decode cX2_set 2 = .ok (.bipush 6, 2) := by decide +kernel
theorem dX2_set_4 : decode cX2_set 4 = .ok (.invokestatic 66, 3) := by decide +kernel
theorem dX2_set_7 : decode cX2_set 7 = .ok (.ifCond .ne 6, 3) := by decide +kernel
theorem dX2_set_10 : decode cX2_set 10 = .ok (.bipush (-2), 2) := by decide +kernel
theorem dX2_set_12 : decode cX2_set 12 = .ok (.ireturn, 1) := by decide +kernel
theorem dX2_set_13 : decode cX2_set 13 = .ok (.iload_n 2, 1) := by decide +kernel
theorem dX2_set_14 : decode cX2_set 14 = .ok (.getstatic 89, 3) := by decide +kernel
theorem dX2_set_17 : decode cX2_set 17 = .ok (.iload_n 1, 1) := by decide +kernel
theorem dX2_set_18 : decode cX2_set 18 = .ok (.iaload, 1) := by decide +kernel
theorem dX2_set_19 : decode cX2_set 19 = .ok (.getstatic 92, 3) := by decide +kernel
theorem dX2_set_22 : decode cX2_set 22 = .ok (.iload_n 1, 1) := by decide +kernel
theorem dX2_set_23 : decode cX2_set 23 = .ok (.iaload, 1) := by decide +kernel
theorem dX2_set_24 : decode cX2_set 24 = .ok (.invokestatic 66, 3) := by decide +kernel
theorem dX2_set_27 : decode cX2_set 27 = .ok (.ifCond .ne 6, 3) := by decide +kernel
theorem dX2_set_30 : decode cX2_set 30 = .ok (.bipush (-2), 2) := by decide +kernel
theorem dX2_set_32 : decode cX2_set 32 = .ok (.ireturn, 1) := by decide +kernel
theorem dX2_set_33 : decode cX2_set 33 = .ok (.aload_n 0, 1) := by decide +kernel
theorem dX2_set_34 : decode cX2_set 34 = .ok (.getfield 10, 3) := by decide +kernel
theorem dX2_set_37 : decode cX2_set 37 = .ok (.getfield 95, 3) := by decide +kernel
theorem dX2_set_40 : decode cX2_set 40 = .ok (.iload_n 1, 1) := by decide +kernel
theorem dX2_set_41 : decode cX2_set 41 = .ok (.iaload, 1) := by decide +kernel
theorem dX2_set_42 : decode cX2_set 42 = .ok (.istore_n 3, 1) := by decide +kernel
theorem dX2_set_43 : decode cX2_set 43 = .ok (.iload_n 3, 1) := by decide +kernel
theorem dX2_set_44 : decode cX2_set 44 = .ok (.iload_n 2, 1) := by decide +kernel
theorem dX2_set_45 : decode cX2_set 45 = .ok (.if_icmp .ne 6, 3) := by decide +kernel
theorem dX2_set_48 : decode cX2_set 48 = .ok (.bipush (-5), 2) := by decide +kernel
theorem dX2_set_50 : decode cX2_set 50 = .ok (.ireturn, 1) := by decide +kernel
theorem dX2_set_51 : decode cX2_set 51 = .ok (.aload_n 0, 1) := by decide +kernel
theorem dX2_set_52 : decode cX2_set 52 = .ok (.invokevirtual 41, 3) := by decide +kernel
theorem dX2_set_55 : decode cX2_set 55 = .ok (.aload_n 0, 1) := by decide +kernel
theorem dX2_set_56 : decode cX2_set 56 = .ok (.getfield 10, 3) := by decide +kernel
theorem dX2_set_59 : decode cX2_set 59 = .ok (.getfield 95, 3) := by decide +kernel
theorem dX2_set_62 : decode cX2_set 62 = .ok (.iload_n 1, 1) := by decide +kernel
theorem dX2_set_63 : decode cX2_set 63 = .ok (.iload_n 2, 1) := by decide +kernel
theorem dX2_set_64 : decode cX2_set 64 = .ok (.iastore, 1) := by decide +kernel
theorem dX2_set_65 : decode cX2_set 65 = .ok (.iload_n 3, 1) := by decide +kernel
theorem dX2_set_66 : decode cX2_set 66 = .ok (.ireturn, 1) := by decide +kernel
theorem dX2_run_0 : decode cX2_run 0 = .ok (.iload_n 1, 1) := by decide +kernel
theorem dX2_run_1 : decode cX2_run 1 = .ok (.iconst 1, 1) := by decide +kernel
theorem dX2_run_2 : decode cX2_run 2 = .ok (.sipush 2000, 3) := by decide +kernel
theorem dX2_run_5 : decode cX2_run 5 = .ok (.invokestatic 66, 3) := by decide +kernel
theorem dX2_run_8 : decode cX2_run 8 = .ok (.ifCond .ne 6, 3) := by decide +kernel
theorem dX2_run_11 : decode cX2_run 11 = .ok (.bipush (-2), 2) := by decide +kernel
theorem dX2_run_13 : decode cX2_run 13 = .ok (.ireturn, 1) := by decide +kernel
theorem dX2_run_14 : decode cX2_run 14 = .ok (.aload_n 0, 1) := by decide +kernel
theorem dX2_run_15 : decode cX2_run 15 = .ok (.invokevirtual 41, 3) := by decide +kernel
theorem dX2_run_18 : decode cX2_run 18 = .ok (.aload_n 0, 1) := by decide +kernel
theorem dX2_run_19 : decode cX2_run 19 = .ok (.getfield 10, 3) := by decide +kernel
theorem dX2_run_22 : decode cX2_run 22 = .ok (.getfield 98, 3) := by decide +kernel
theorem dX2_run_25 : decode cX2_run 25 = .ok (.istore_n 2, 1) := by decide +kernel
theorem dX2_run_26 : decode cX2_run 26 = .ok (.aload_n 0, 1) := by decide +kernel
theorem dX2_run_27 : decode cX2_run 27 = .ok (.getfield 10, 3) := by decide +kernel
theorem dX2_run_30 : decode cX2_run 30 = .ok (.iload_n 1, 1) := by decide +kernel
theorem dX2_run_31 : decode cX2_run 31 = .ok (.invokevirtual 101, 3) := by decide +kernel
theorem dX2_run_34 : decode cX2_run 34 = .ok (.aload_n 0, 1) := by decide +kernel
theorem dX2_run_35 : decode cX2_run 35 = .ok (.getfield 10, 3) := by decide +kernel
theorem dX2_run_38 : decode cX2_run 38 = .ok (.getfield 98, 3) := by decide +kernel
theorem dX2_run_41 : decode cX2_run 41 = .ok (.iload_n 2, 1) := by decide +kernel
theorem dX2_run_42 : decode cX2_run 42 = .ok (.isub, 1) := by decide +kernel
theorem dX2_run_43 : decode cX2_run 43 = .ok (.ireturn, 1) := by decide +kernel
theorem dX2_type_0 : decode cX2_type 0 = .ok (.aload_n 0, 1) := by decide +kernel
theorem dX2_type_1 : decode cX2_type 1 = .ok (.getfield 29, 3) := by decide +kernel
theorem dX2_type_4 : decode cX2_type 4 = .ok (.iload_n 1, 1) := by decide +kernel
theorem dX2_type_5 : decode cX2_type 5 = .ok (.invokevirtual 104, 3) := by decide +kernel
theorem dX2_type_8 : decode cX2_type 8 = .ok (.ifCond .eq 13, 3) := by decide +kernel
theorem dX2_type_11 : decode cX2_type 11 = .ok (.aload_n 0, 1) := by decide +kernel
theorem dX2_type_12 : decode cX2_type 12 = .ok (.getfield 29, 3) := by decide +kernel
theorem dX2_type_15 : decode cX2_type 15 = .ok (.getfield 108, 3) := by decide +kernel
theorem dX2_type_18 : decode cX2_type 18 = .ok (.goto 5, 3) := by decide +kernel
theorem dX2_type_21 : decode cX2_type 21 = .ok (.bipush (-3), 2) := by decide +kernel
theorem dX2_type_23 : decode cX2_type 23 = .ok (.ireturn, 1) := by decide +kernel
theorem dX2_clearText_0 : decode cX2_clearText 0 = .ok (.aload_n 0, 1) := by decide +kernel
theorem dX2_clearText_1 : decode cX2_clearText 1 = .ok (.getfield 29, 3) := by decide +kernel
theorem dX2_clearText_4 : decode cX2_clearText 4 = .ok (.getfield 108, 3) := by decide +kernel
theorem dX2_clearText_7 : decode cX2_clearText 7 = .ok (.istore_n 1, 1) := by decide +kernel
theorem dX2_clearText_8 : decode cX2_clearText 8 = .ok (.aload_n 0, 1) := by decide +kernel
theorem dX2_clearText_9 : decode cX2_clearText 9 = .ok (.getfield 29, 3) := by decide +kernel
theorem dX2_clearText_12 : decode cX2_clearText 12 = .ok (.iconst 0, 1) := by decide +kernel
theorem dX2_clearText_13 : decode cX2_clearText 13 = .ok (.putfield 108, 3) := by decide +kernel
theorem dX2_clearText_16 : decode cX2_clearText 16 = .ok (.iload_n 1, 1) := by decide +kernel
theorem dX2_clearText_17 : decode cX2_clearText 17 = .ok (.ireturn, 1) := by decide +kernel
theorem dX2_path_0 : decode cX2_path 0 = .ok (.aload_n 0, 1) := by decide +kernel
theorem dX2_path_1 : decode cX2_path 1 = .ok (.iload_n 1, 1) := by decide +kernel
theorem dX2_path_2 : decode cX2_path 2 = .ok (.invokevirtual 48, 3) := by decide +kernel
theorem dX2_path_5 : decode cX2_path 5 = .ok (.ifCond .ne 5, 3) := by decide +kernel
theorem dX2_path_8 : decode cX2_path 8 = .ok (.iconst (-1), 1) := by decide +kernel
theorem dX2_path_9 : decode cX2_path 9 = .ok (.ireturn, 1) := by decide +kernel
theorem dX2_path_10 : decode cX2_path 10 = .ok (.iload_n 2, 1) := by decide +kernel
theorem dX2_path_11 : decode cX2_path 11 = .ok (.tableswitch 87 0 4 #[33, 43, 52, 68, 78], 33) := by decide +kernel
theorem dX2_path_44 : decode cX2_path 44 = .ok (.aload_n 0, 1) := by decide +kernel
theorem dX2_path_45 : decode cX2_path 45 = .ok (.getfield 10, 3) := by decide +kernel
theorem dX2_path_48 : decode cX2_path 48 = .ok (.getfield 44, 3) := by decide +kernel
theorem dX2_path_51 : decode cX2_path 51 = .ok (.iload_n 1, 1) := by decide +kernel
theorem dX2_path_52 : decode cX2_path 52 = .ok (.iaload, 1) := by decide +kernel
theorem dX2_path_53 : decode cX2_path 53 = .ok (.ireturn, 1) := by decide +kernel
theorem dX2_path_54 : decode cX2_path 54 = .ok (.aload_n 0, 1) := by decide +kernel
theorem dX2_path_55 : decode cX2_path 55 = .ok (.getfield 10, 3) := by decide +kernel
theorem dX2_path_58 : decode cX2_path 58 = .ok (.iload_n 1, 1) := by decide +kernel
theorem dX2_path_59 : decode cX2_path 59 = .ok (.invokevirtual 121, 3) := by decide +kernel
theorem dX2_path_62 : decode cX2_path 62 = .ok (.ireturn, 1) := by decide +kernel
theorem dX2_path_63 : decode cX2_path 63 = .ok (.aload_n 0, 1) := by decide +kernel
theorem dX2_path_64 : decode cX2_path 64 = .ok (.getfield 10, 3) := by decide +kernel
theorem dX2_path_67 : decode cX2_path 67 = .ok (.aload_n 0, 1) := by decide +kernel
theorem dX2_path_68 : decode cX2_path 68 = .ok (.getfield 10, 3) := by decide +kernel
theorem dX2_path_71 : decode cX2_path 71 = .ok (.iload_n 1, 1) := by decide +kernel
theorem dX2_path_72 : decode cX2_path 72 = .ok (.invokevirtual 121, 3) := by decide +kernel
theorem dX2_path_75 : decode cX2_path 75 = .ok (.invokevirtual 124, 3) := by decide +kernel
theorem dX2_path_78 : decode cX2_path 78 = .ok (.ireturn, 1) := by decide +kernel
theorem dX2_path_79 : decode cX2_path 79 = .ok (.aload_n 0, 1) := by decide +kernel
theorem dX2_path_80 : decode cX2_path 80 = .ok (.getfield 10, 3) := by decide +kernel
theorem dX2_path_83 : decode cX2_path 83 = .ok (.getfield 127, 3) := by decide +kernel
theorem dX2_path_86 : decode cX2_path 86 = .ok (.iload_n 1, 1) := by decide +kernel
theorem dX2_path_87 : decode cX2_path 87 = .ok (.iaload, 1) := by decide +kernel
theorem dX2_path_88 : decode cX2_path 88 = .ok (.ireturn, 1) := by decide +kernel
theorem dX2_path_89 : decode cX2_path 89 = .ok (.aload_n 0, 1) := by decide +kernel
theorem dX2_path_90 : decode cX2_path 90 = .ok (.getfield 10, 3) := by decide +kernel
theorem dX2_path_93 : decode cX2_path 93 = .ok (.iload_n 1, 1) := by decide +kernel
theorem dX2_path_94 : decode cX2_path 94 = .ok (.invokevirtual 130, 3) := by decide +kernel
theorem dX2_path_97 : decode cX2_path 97 = .ok (.ireturn, 1) := by decide +kernel
theorem dX2_path_98 : decode cX2_path 98 = .ok (.bipush (-2), 2) := by decide +kernel
theorem dX2_path_100 : decode cX2_path 100 = .ok (.ireturn, 1) := by decide +kernel
theorem dX2_delay_0 : decode cX2_delay 0 = .ok (.aload_n 0, 1) := by decide +kernel
theorem dX2_delay_1 : decode cX2_delay 1 = .ok (.iload_n 1, 1) := by decide +kernel
theorem dX2_delay_2 : decode cX2_delay 2 = .ok (.invokevirtual 48, 3) := by decide +kernel
theorem dX2_delay_5 : decode cX2_delay 5 = .ok (.ifCond .ne 5, 3) := by decide +kernel
theorem dX2_delay_8 : decode cX2_delay 8 = .ok (.iconst (-1), 1) := by decide +kernel
theorem dX2_delay_9 : decode cX2_delay 9 = .ok (.ireturn, 1) := by decide +kernel
theorem dX2_delay_10 : decode cX2_delay 10 = .ok (.iload_n 2, 1) := by decide +kernel
theorem dX2_delay_11 : decode cX2_delay 11 = .ok (.invokestatic 76, 3) := by decide +kernel
theorem dX2_delay_14 : decode cX2_delay 14 = .ok (.ifCond .eq 14, 3) := by decide +kernel
theorem dX2_delay_17 : decode cX2_delay 17 = .ok (.iload_n 3, 1) := by decide +kernel
theorem dX2_delay_18 : decode cX2_delay 18 = .ok (.bipush 20, 2) := by decide +kernel
theorem dX2_delay_20 : decode cX2_delay 20 = .ok (.bipush 120, 2) := by decide +kernel
theorem dX2_delay_22 : decode cX2_delay 22 = .ok (.invokestatic 66, 3) := by decide +kernel
theorem dX2_delay_25 : decode cX2_delay 25 = .ok (.ifCond .ne 6, 3) := by decide +kernel
theorem dX2_delay_28 : decode cX2_delay 28 = .ok (.bipush (-2), 2) := by decide +kernel
theorem dX2_delay_30 : decode cX2_delay 30 = .ok (.ireturn, 1) := by decide +kernel
theorem dX2_delay_31 : decode cX2_delay 31 = .ok (.aload_n 0, 1) := by decide +kernel
theorem dX2_delay_32 : decode cX2_delay 32 = .ok (.getfield 10, 3) := by decide +kernel
theorem dX2_delay_35 : decode cX2_delay 35 = .ok (.getfield 44, 3) := by decide +kernel
theorem dX2_delay_38 : decode cX2_delay 38 = .ok (.iload_n 1, 1) := by decide +kernel
theorem dX2_delay_39 : decode cX2_delay 39 = .ok (.iaload, 1) := by decide +kernel
theorem dX2_delay_40 : decode cX2_delay 40 = .ok (.iload_n 2, 1) := by decide +kernel
theorem dX2_delay_41 : decode cX2_delay 41 = .ok (.iload_n 3, 1) := by decide +kernel
theorem dX2_delay_42 : decode cX2_delay 42 = .ok (.invokestatic 133, 3) := by decide +kernel
theorem dX2_delay_45 : decode cX2_delay 45 = .ok (.ireturn, 1) := by decide +kernel
theorem dX2_workload_0 : decode cX2_workload 0 = .ok (.iload_n 1, 1) := by decide +kernel
theorem dX2_workload_1 : decode cX2_workload 1 = .ok (.ifCond .ge 6, 3) := by decide +kernel
theorem dX2_workload_4 : decode cX2_workload 4 = .ok (.bipush (-2), 2) := by decide +kernel
theorem dX2_workload_6 : decode cX2_workload 6 = .ok (.ireturn, 1) := by decide +kernel
theorem dX2_workload_7 : decode cX2_workload 7 = .ok (.iload_n 1, 1) := by decide +kernel
theorem dX2_workload_8 : decode cX2_workload 8 = .ok (.aload_n 0, 1) := by decide +kernel
theorem dX2_workload_9 : decode cX2_workload 9 = .ok (.getfield 10, 3) := by decide +kernel
theorem dX2_workload_12 : decode cX2_workload 12 = .ok (.getfield 137, 3) := by decide +kernel
theorem dX2_workload_15 : decode cX2_workload 15 = .ok (.if_icmp .ge 15, 3) := by decide +kernel
theorem dX2_workload_18 : decode cX2_workload 18 = .ok (.aload_n 0, 1) := by decide +kernel
theorem dX2_workload_19 : decode cX2_workload 19 = .ok (.getfield 10, 3) := by decide +kernel
theorem dX2_workload_22 : decode cX2_workload 22 = .ok (.getfield 61, 3) := by decide +kernel
theorem dX2_workload_25 : decode cX2_workload 25 = .ok (.iload_n 1, 1) := by decide +kernel
theorem dX2_workload_26 : decode cX2_workload 26 = .ok (.iaload, 1) := by decide +kernel
theorem dX2_workload_27 : decode cX2_workload 27 = .ok (.goto 5, 3) := by decide +kernel
theorem dX2_workload_30 : decode cX2_workload 30 = .ok (.bipush (-5), 2) := by decide +kernel
theorem dX2_workload_32 : decode cX2_workload 32 = .ok (.ireturn, 1) := by decide +kernel
theorem dX2_least_0 : decode cX2_least 0 = .ok (.aload_n 0, 1) := by decide +kernel
theorem dX2_least_1 : decode cX2_least 1 = .ok (.getfield 10, 3) := by decide +kernel
theorem dX2_least_4 : decode cX2_least 4 = .ok (.invokevirtual 138, 3) := by decide +kernel
theorem dX2_least_7 : decode cX2_least 7 = .ok (.istore_n 2, 1) := by decide +kernel
theorem dX2_least_8 : decode cX2_least 8 = .ok (.iload_n 1, 1) := by decide +kernel
theorem dX2_least_9 : decode cX2_least 9 = .ok (.ifCond .eq 7, 3) := by decide +kernel
theorem dX2_least_12 : decode cX2_least 12 = .ok (.iconst 1, 1) := by decide +kernel
theorem dX2_least_13 : decode cX2_least 13 = .ok (.goto 4, 3) := by decide +kernel
theorem dX2_least_16 : decode cX2_least 16 = .ok (.iconst 0, 1) := by decide +kernel
theorem dX2_least_17 : decode cX2_least 17 = .ok (.istore_n 3, 1) := by decide +kernel
theorem dX2_least_18 : decode cX2_least 18 = .ok (.sipush 500, 3) := by decide +kernel
theorem dX2_least_21 : decode cX2_least 21 = .ok (.istore 4, 2) := by decide +kernel
theorem dX2_least_23 : decode cX2_least 23 = .ok (.iload 4, 2) := by decide +kernel
theorem dX2_least_25 : decode cX2_least 25 = .ok (.sipush 1200, 3) := by decide +kernel
theorem dX2_least_28 : decode cX2_least 28 = .ok (.if_icmp .gt 36, 3) := by decide +kernel
theorem dX2_least_31 : decode cX2_least 31 = .ok (.aload_n 0, 1) := by decide +kernel
theorem dX2_least_32 : decode cX2_least 32 = .ok (.getfield 10, 3) := by decide +kernel
theorem dX2_least_35 : decode cX2_least 35 = .ok (.iload_n 2, 1) := by decide +kernel
theorem dX2_least_36 : decode cX2_least 36 = .ok (.iload 4, 2) := by decide +kernel
theorem dX2_least_38 : decode cX2_least 38 = .ok (.aload_n 0, 1) := by decide +kernel
theorem dX2_least_39 : decode cX2_least 39 = .ok (.getfield 10, 3) := by decide +kernel
theorem dX2_least_42 : decode cX2_least 42 = .ok (.getfield 141, 3) := by decide +kernel
theorem dX2_least_45 : decode cX2_least 45 = .ok (.invokestatic 133, 3) := by decide +kernel
theorem dX2_least_48 : decode cX2_least 48 = .ok (.invokevirtual 124, 3) := by decide +kernel
theorem dX2_least_51 : decode cX2_least 51 = .ok (.iload_n 3, 1) := by decide +kernel
theorem dX2_least_52 : decode cX2_least 52 = .ok (.if_icmp .gt 6, 3) := by decide +kernel
theorem dX2_least_55 : decode cX2_least 55 = .ok (.iload 4, 2) := by decide +kernel
theorem dX2_least_57 : decode cX2_least 57 = .ok (.ireturn, 1) := by decide +kernel
theorem dX2_least_58 : decode cX2_least 58 = .ok (.iinc 4 1, 3) := by decide +kernel
theorem dX2_least_61 : decode cX2_least 61 = .ok (.goto (-38), 3) := by decide +kernel
theorem dX2_least_64 : decode cX2_least 64 = .ok (.bipush (-5), 2) := by decide +kernel
theorem dX2_least_66 : decode cX2_least 66 = .ok (.ireturn, 1) := by decide +kernel
theorem dX2_would_0 : decode cX2_would 0 = .ok (.iload_n 1, 1) := by decide +kernel
theorem dX2_would_1 : decode cX2_would 1 = .ok (.invokestatic 76, 3) := by decide +kernel
theorem dX2_would_4 : decode cX2_would 4 = .ok (.ifCond .eq 23, 3) := by decide +kernel
theorem dX2_would_7 : decode cX2_would 7 = .ok (.iload_n 2, 1) := by decide +kernel
theorem dX2_would_8 : decode cX2_would 8 = .ok (.iconst 1, 1) := by decide +kernel
theorem dX2_would_9 : decode cX2_would 9 = .ok (.sipush 500, 3) := by decide +kernel
theorem dX2_would_12 : decode cX2_would 12 = .ok (.invokestatic 66, 3) := by decide +kernel
theorem dX2_would_15 : decode cX2_would 15 = .ok (.ifCond .eq 12, 3) := by decide +kernel
theorem dX2_would_18 : decode cX2_would 18 = .ok (.iload_n 3, 1) := by decide +kernel
theorem dX2_would_19 : decode cX2_would 19 = .ok (.iconst 0, 1) := by decide +kernel
theorem dX2_would_20 : decode cX2_would 20 = .ok (.iconst 4, 1) := by decide +kernel
theorem dX2_would_21 : decode cX2_would 21 = .ok (.invokestatic 66, 3) := by decide +kernel
theorem dX2_would_24 : decode cX2_would 24 = .ok (.ifCond .ne 6, 3) := by decide +kernel
theorem dX2_would_27 : decode cX2_would 27 = .ok (.bipush (-2), 2) := by decide +kernel
theorem dX2_would_29 : decode cX2_would 29 = .ok (.ireturn, 1) := by decide +kernel
theorem dX2_would_30 : decode cX2_would 30 = .ok (.aload_n 0, 1) := by decide +kernel
theorem dX2_would_31 : decode cX2_would 31 = .ok (.iload_n 1, 1) := by decide +kernel
theorem dX2_would_32 : decode cX2_would 32 = .ok (.iload_n 2, 1) := by decide +kernel
theorem dX2_would_33 : decode cX2_would 33 = .ok (.invokevirtual 144, 3) := by decide +kernel
theorem dX2_would_36 : decode cX2_would 36 = .ok (.iload_n 3, 1) := by decide +kernel
theorem dX2_would_37 : decode cX2_would 37 = .ok (.tableswitch 96 0 3 #[31, 47, 63, 80], 31) := by decide +kernel
theorem dX2_would_68 : decode cX2_would 68 = .ok (.aload_n 0, 1) := by decide +kernel
theorem dX2_would_69 : decode cX2_would 69 = .ok (.getfield 19, 3) := by decide +kernel
theorem dX2_would_72 : decode cX2_would 72 = .ok (.getfield 98, 3) := by decide +kernel
theorem dX2_would_75 : decode cX2_would 75 = .ok (.aload_n 0, 1) := by decide +kernel
theorem dX2_would_76 : decode cX2_would 76 = .ok (.getfield 10, 3) := by decide +kernel
theorem dX2_would_79 : decode cX2_would 79 = .ok (.getfield 98, 3) := by decide +kernel
theorem dX2_would_82 : decode cX2_would 82 = .ok (.isub, 1) := by decide +kernel
theorem dX2_would_83 : decode cX2_would 83 = .ok (.ireturn, 1) := by decide +kernel
theorem dX2_would_84 : decode cX2_would 84 = .ok (.aload_n 0, 1) := by decide +kernel
theorem dX2_would_85 : decode cX2_would 85 = .ok (.getfield 19, 3) := by decide +kernel
theorem dX2_would_88 : decode cX2_would 88 = .ok (.getfield 148, 3) := by decide +kernel
theorem dX2_would_91 : decode cX2_would 91 = .ok (.aload_n 0, 1) := by decide +kernel
theorem dX2_would_92 : decode cX2_would 92 = .ok (.getfield 10, 3) := by decide +kernel
theorem dX2_would_95 : decode cX2_would 95 = .ok (.getfield 148, 3) := by decide +kernel
theorem dX2_would_98 : decode cX2_would 98 = .ok (.isub, 1) := by decide +kernel
theorem dX2_would_99 : decode cX2_would 99 = .ok (.ireturn, 1) := by decide +kernel
theorem dX2_would_100 : decode cX2_would 100 = .ok (.aload_n 0, 1) := by decide +kernel
theorem dX2_would_101 : decode cX2_would 101 = .ok (.getfield 19, 3) := by decide +kernel
theorem dX2_would_104 : decode cX2_would 104 = .ok (.getfield 151, 3) := by decide +kernel
theorem dX2_would_107 : decode cX2_would 107 = .ok (.aload_n 0, 1) := by decide +kernel
theorem dX2_would_108 : decode cX2_would 108 = .ok (.getfield 10, 3) := by decide +kernel
theorem dX2_would_111 : decode cX2_would 111 = .ok (.getfield 151, 3) := by decide +kernel
theorem dX2_would_114 : decode cX2_would 114 = .ok (.lsub, 1) := by decide +kernel
theorem dX2_would_115 : decode cX2_would 115 = .ok (.l2i, 1) := by decide +kernel
theorem dX2_would_116 : decode cX2_would 116 = .ok (.ireturn, 1) := by decide +kernel
theorem dX2_would_117 : decode cX2_would 117 = .ok (.aload_n 0, 1) := by decide +kernel
theorem dX2_would_118 : decode cX2_would 118 = .ok (.getfield 19, 3) := by decide +kernel
theorem dX2_would_121 : decode cX2_would 121 = .ok (.getfield 155, 3) := by decide +kernel
theorem dX2_would_124 : decode cX2_would 124 = .ok (.aload_n 0, 1) := by decide +kernel
theorem dX2_would_125 : decode cX2_would 125 = .ok (.getfield 10, 3) := by decide +kernel
theorem dX2_would_128 : decode cX2_would 128 = .ok (.getfield 155, 3) := by decide +kernel
theorem dX2_would_131 : decode cX2_would 131 = .ok (.isub, 1) := by decide +kernel
theorem dX2_would_132 : decode cX2_would 132 = .ok (.ireturn, 1) := by decide +kernel
theorem dX2_would_133 : decode cX2_would 133 = .ok (.aload_n 0, 1) := by decide +kernel
theorem dX2_would_134 : decode cX2_would 134 = .ok (.getfield 19, 3) := by decide +kernel
theorem dX2_would_137 : decode cX2_would 137 = .ok (.getfield 141, 3) := by decide +kernel
theorem dX2_would_140 : decode cX2_would 140 = .ok (.ireturn, 1) := by decide +kernel
theorem dX2_best_0 : decode cX2_best 0 = .ok (.iload_n 1, 1) := by decide +kernel
theorem dX2_best_1 : decode cX2_best 1 = .ok (.iconst 1, 1) := by decide +kernel
theorem dX2_best_2 : decode cX2_best 2 = .ok (.sipush 200, 3) := by decide +kernel
theorem dX2_best_5 : decode cX2_best 5 = .ok (.invokestatic 66, 3) := by decide +kernel
theorem dX2_best_8 : decode cX2_best 8 = .ok (.ifCond .ne 6, 3) := by decide +kernel
theorem dX2_best_11 : decode cX2_best 11 = .ok (.bipush (-2), 2) := by decide +kernel
theorem dX2_best_13 : decode cX2_best 13 = .ok (.ireturn, 1) := by decide +kernel
theorem dX2_best_14 : decode cX2_best 14 = .ok (.bipush (-5), 2) := by decide +kernel
theorem dX2_best_16 : decode cX2_best 16 = .ok (.istore_n 2, 1) := by decide +kernel
theorem dX2_best_17 : decode cX2_best 17 = .ok (.lconst 0, 1) := by decide +kernel
theorem dX2_best_18 : decode cX2_best 18 = .ok (.lstore_n 3, 1) := by decide +kernel
theorem dX2_best_19 : decode cX2_best 19 = .ok (.sipush 500, 3) := by decide +kernel
theorem dX2_best_22 : decode cX2_best 22 = .ok (.istore 5, 2) := by decide +kernel
theorem dX2_best_24 : decode cX2_best 24 = .ok (.iload 5, 2) := by decide +kernel
theorem dX2_best_26 : decode cX2_best 26 = .ok (.sipush 1200, 3) := by decide +kernel
theorem dX2_best_29 : decode cX2_best 29 = .ok (.if_icmp .gt 69, 3) := by decide +kernel
theorem dX2_best_32 : decode cX2_best 32 = .ok (.aload_n 0, 1) := by decide +kernel
theorem dX2_best_33 : decode cX2_best 33 = .ok (.iload 5, 2) := by decide +kernel
theorem dX2_best_35 : decode cX2_best 35 = .ok (.iload_n 1, 1) := by decide +kernel
theorem dX2_best_36 : decode cX2_best 36 = .ok (.invokevirtual 144, 3) := by decide +kernel
theorem dX2_best_39 : decode cX2_best 39 = .ok (.aload_n 0, 1) := by decide +kernel
theorem dX2_best_40 : decode cX2_best 40 = .ok (.getfield 19, 3) := by decide +kernel
theorem dX2_best_43 : decode cX2_best 43 = .ok (.getfield 151, 3) := by decide +kernel
theorem dX2_best_46 : decode cX2_best 46 = .ok (.aload_n 0, 1) := by decide +kernel
theorem dX2_best_47 : decode cX2_best 47 = .ok (.getfield 10, 3) := by decide +kernel
theorem dX2_best_50 : decode cX2_best 50 = .ok (.getfield 151, 3) := by decide +kernel
theorem dX2_best_53 : decode cX2_best 53 = .ok (.lsub, 1) := by decide +kernel
theorem dX2_best_54 : decode cX2_best 54 = .ok (.lstore 6, 2) := by decide +kernel
theorem dX2_best_56 : decode cX2_best 56 = .ok (.aload_n 0, 1) := by decide +kernel
theorem dX2_best_57 : decode cX2_best 57 = .ok (.getfield 19, 3) := by decide +kernel
theorem dX2_best_60 : decode cX2_best 60 = .ok (.getfield 148, 3) := by decide +kernel
theorem dX2_best_63 : decode cX2_best 63 = .ok (.aload_n 0, 1) := by decide +kernel
theorem dX2_best_64 : decode cX2_best 64 = .ok (.getfield 10, 3) := by decide +kernel
theorem dX2_best_67 : decode cX2_best 67 = .ok (.getfield 148, 3) := by decide +kernel
theorem dX2_best_70 : decode cX2_best 70 = .ok (.if_icmp .ne 22, 3) := by decide +kernel
theorem dX2_best_73 : decode cX2_best 73 = .ok (.iload_n 2, 1) := by decide +kernel
theorem dX2_best_74 : decode cX2_best 74 = .ok (.bipush (-5), 2) := by decide +kernel
theorem dX2_best_76 : decode cX2_best 76 = .ok (.if_icmp .eq 10, 3) := by decide +kernel
theorem dX2_best_79 : decode cX2_best 79 = .ok (.lload 6, 2) := by decide +kernel
theorem dX2_best_81 : decode cX2_best 81 = .ok (.lload_n 3, 1) := by decide +kernel
theorem dX2_best_82 : decode cX2_best 82 = .ok (.lcmp, 1) := by decide +kernel
theorem dX2_best_83 : decode cX2_best 83 = .ok (.ifCond .ge 9, 3) := by decide +kernel
theorem dX2_best_86 : decode cX2_best 86 = .ok (.iload 5, 2) := by decide +kernel
theorem dX2_best_88 : decode cX2_best 88 = .ok (.istore_n 2, 1) := by decide +kernel
theorem dX2_best_89 : decode cX2_best 89 = .ok (.lload 6, 2) := by decide +kernel
theorem dX2_best_91 : decode cX2_best 91 = .ok (.lstore_n 3, 1) := by decide +kernel
theorem dX2_best_92 : decode cX2_best 92 = .ok (.iinc 5 50, 3) := by decide +kernel
theorem dX2_best_95 : decode cX2_best 95 = .ok (.goto (-71), 3) := by decide +kernel
theorem dX2_best_98 : decode cX2_best 98 = .ok (.iload_n 2, 1) := by decide +kernel
theorem dX2_best_99 : decode cX2_best 99 = .ok (.ireturn, 1) := by decide +kernel
theorem dX2_count_0 : decode cX2_count 0 = .ok (.iload_n 1, 1) := by decide +kernel
theorem dX2_count_1 : decode cX2_count 1 = .ok (.bipush 17, 2) := by decide +kernel
theorem dX2_count_3 : decode cX2_count 3 = .ok (.bipush 23, 2) := by decide +kernel
theorem dX2_count_5 : decode cX2_count 5 = .ok (.invokestatic 66, 3) := by decide +kernel
theorem dX2_count_8 : decode cX2_count 8 = .ok (.ifCond .eq 16, 3) := by decide +kernel
theorem dX2_count_11 : decode cX2_count 11 = .ok (.aload_n 0, 1) := by decide +kernel
theorem dX2_count_12 : decode cX2_count 12 = .ok (.getfield 10, 3) := by decide +kernel
theorem dX2_count_15 : decode cX2_count 15 = .ok (.getfield 95, 3) := by decide +kernel
theorem dX2_count_18 : decode cX2_count 18 = .ok (.iload_n 1, 1) := by decide +kernel
theorem dX2_count_19 : decode cX2_count 19 = .ok (.bipush 17, 2) := by decide +kernel
theorem dX2_count_21 : decode cX2_count 21 = .ok (.isub, 1) := by decide +kernel
theorem dX2_count_22 : decode cX2_count 22 = .ok (.iaload, 1) := by decide +kernel
theorem dX2_count_23 : decode cX2_count 23 = .ok (.ireturn, 1) := by decide +kernel
theorem dX2_count_24 : decode cX2_count 24 = .ok (.iload_n 1, 1) := by decide +kernel
theorem dX2_count_25 : decode cX2_count 25 = .ok (.tableswitch 283 0 25 #[119, 127, 135, 151, 159, 167, 175, 183, 196, 204, 212, 220, 228, 236, 245, 254, 262, 283, 283, 283, 283, 283, 283, 283, 270, 275], 119) := by decide +kernel
theorem dX2_count_144 : decode cX2_count 144 = .ok (.aload_n 0, 1) := by decide +kernel
theorem dX2_count_145 : decode cX2_count 145 = .ok (.getfield 10, 3) := by decide +kernel
theorem dX2_count_148 : decode cX2_count 148 = .ok (.getfield 79, 3) := by decide +kernel
theorem dX2_count_151 : decode cX2_count 151 = .ok (.ireturn, 1) := by decide +kernel
theorem dX2_count_152 : decode cX2_count 152 = .ok (.aload_n 0, 1) := by decide +kernel
theorem dX2_count_153 : decode cX2_count 153 = .ok (.getfield 10, 3) := by decide +kernel
theorem dX2_count_156 : decode cX2_count 156 = .ok (.getfield 141, 3) := by decide +kernel
theorem dX2_count_159 : decode cX2_count 159 = .ok (.ireturn, 1) := by decide +kernel
theorem dX2_count_160 : decode cX2_count 160 = .ok (.aload_n 0, 1) := by decide +kernel
theorem dX2_count_161 : decode cX2_count 161 = .ok (.getfield 10, 3) := by decide +kernel
theorem dX2_count_164 : decode cX2_count 164 = .ok (.getfield 82, 3) := by decide +kernel
theorem dX2_count_167 : decode cX2_count 167 = .ok (.ifCond .eq 7, 3) := by decide +kernel
theorem dX2_count_170 : decode cX2_count 170 = .ok (.iconst 1, 1) := by decide +kernel
theorem dX2_count_171 : decode cX2_count 171 = .ok (.goto 4, 3) := by decide +kernel
theorem dX2_count_174 : decode cX2_count 174 = .ok (.iconst 0, 1) := by decide +kernel
theorem dX2_count_175 : decode cX2_count 175 = .ok (.ireturn, 1) := by decide +kernel
theorem dX2_count_176 : decode cX2_count 176 = .ok (.aload_n 0, 1) := by decide +kernel
theorem dX2_count_177 : decode cX2_count 177 = .ok (.getfield 10, 3) := by decide +kernel
theorem dX2_count_180 : decode cX2_count 180 = .ok (.getfield 155, 3) := by decide +kernel
theorem dX2_count_183 : decode cX2_count 183 = .ok (.ireturn, 1) := by decide +kernel
theorem dX2_count_184 : decode cX2_count 184 = .ok (.aload_n 0, 1) := by decide +kernel
theorem dX2_count_185 : decode cX2_count 185 = .ok (.getfield 10, 3) := by decide +kernel
theorem dX2_count_188 : decode cX2_count 188 = .ok (.getfield 158, 3) := by decide +kernel
theorem dX2_count_191 : decode cX2_count 191 = .ok (.ireturn, 1) := by decide +kernel
theorem dX2_count_192 : decode cX2_count 192 = .ok (.aload_n 0, 1) := by decide +kernel
theorem dX2_count_193 : decode cX2_count 193 = .ok (.getfield 10, 3) := by decide +kernel
theorem dX2_count_196 : decode cX2_count 196 = .ok (.getfield 98, 3) := by decide +kernel
theorem dX2_count_199 : decode cX2_count 199 = .ok (.ireturn, 1) := by decide +kernel
theorem dX2_count_200 : decode cX2_count 200 = .ok (.aload_n 0, 1) := by decide +kernel
theorem dX2_count_201 : decode cX2_count 201 = .ok (.getfield 10, 3) := by decide +kernel
theorem dX2_count_204 : decode cX2_count 204 = .ok (.getfield 148, 3) := by decide +kernel
theorem dX2_count_207 : decode cX2_count 207 = .ok (.ireturn, 1) := by decide +kernel
theorem dX2_count_208 : decode cX2_count 208 = .ok (.aload_n 0, 1) := by decide +kernel
theorem dX2_count_209 : decode cX2_count 209 = .ok (.getfield 10, 3) := by decide +kernel
theorem dX2_count_212 : decode cX2_count 212 = .ok (.getfield 151, 3) := by decide +kernel
theorem dX2_count_215 : decode cX2_count 215 = .ok (.ldc2_w 161, 3) := by decide +kernel
theorem dX2_count_218 : decode cX2_count 218 = .ok (.ldiv, 1) := by decide +kernel
theorem dX2_count_219 : decode cX2_count 219 = .ok (.l2i, 1) := by decide +kernel
theorem dX2_count_220 : decode cX2_count 220 = .ok (.ireturn, 1) := by decide +kernel
theorem dX2_count_221 : decode cX2_count 221 = .ok (.aload_n 0, 1) := by decide +kernel
theorem dX2_count_222 : decode cX2_count 222 = .ok (.getfield 10, 3) := by decide +kernel
theorem dX2_count_225 : decode cX2_count 225 = .ok (.getfield 163, 3) := by decide +kernel
theorem dX2_count_228 : decode cX2_count 228 = .ok (.ireturn, 1) := by decide +kernel
theorem dX2_count_229 : decode cX2_count 229 = .ok (.aload_n 0, 1) := by decide +kernel
theorem dX2_count_230 : decode cX2_count 230 = .ok (.getfield 10, 3) := by decide +kernel
theorem dX2_count_233 : decode cX2_count 233 = .ok (.getfield 166, 3) := by decide +kernel
theorem dX2_count_236 : decode cX2_count 236 = .ok (.ireturn, 1) := by decide +kernel
theorem dX2_count_237 : decode cX2_count 237 = .ok (.aload_n 0, 1) := by decide +kernel
theorem dX2_count_238 : decode cX2_count 238 = .ok (.getfield 10, 3) := by decide +kernel
theorem dX2_count_241 : decode cX2_count 241 = .ok (.getfield 137, 3) := by decide +kernel
theorem dX2_count_244 : decode cX2_count 244 = .ok (.ireturn, 1) := by decide +kernel
theorem dX2_count_245 : decode cX2_count 245 = .ok (.aload_n 0, 1) := by decide +kernel
theorem dX2_count_246 : decode cX2_count 246 = .ok (.getfield 10, 3) := by decide +kernel
theorem dX2_count_249 : decode cX2_count 249 = .ok (.getfield 169, 3) := by decide +kernel
theorem dX2_count_252 : decode cX2_count 252 = .ok (.ireturn, 1) := by decide +kernel
theorem dX2_count_253 : decode cX2_count 253 = .ok (.aload_n 0, 1) := by decide +kernel
theorem dX2_count_254 : decode cX2_count 254 = .ok (.getfield 10, 3) := by decide +kernel
theorem dX2_count_257 : decode cX2_count 257 = .ok (.getfield 37, 3) := by decide +kernel
theorem dX2_count_260 : decode cX2_count 260 = .ok (.ireturn, 1) := by decide +kernel
theorem dX2_count_261 : decode cX2_count 261 = .ok (.aload_n 0, 1) := by decide +kernel
theorem dX2_count_262 : decode cX2_count 262 = .ok (.getfield 10, 3) := by decide +kernel
theorem dX2_count_265 : decode cX2_count 265 = .ok (.iconst 1, 1) := by decide +kernel
theorem dX2_count_266 : decode cX2_count 266 = .ok (.invokevirtual 172, 3) := by decide +kernel
theorem dX2_count_269 : decode cX2_count 269 = .ok (.ireturn, 1) := by decide +kernel
theorem dX2_count_270 : decode cX2_count 270 = .ok (.aload_n 0, 1) := by decide +kernel
theorem dX2_count_271 : decode cX2_count 271 = .ok (.getfield 10, 3) := by decide +kernel
theorem dX2_count_274 : decode cX2_count 274 = .ok (.iconst 2, 1) := by decide +kernel
theorem dX2_count_275 : decode cX2_count 275 = .ok (.invokevirtual 172, 3) := by decide +kernel
theorem dX2_count_278 : decode cX2_count 278 = .ok (.ireturn, 1) := by decide +kernel
theorem dX2_count_279 : decode cX2_count 279 = .ok (.aload_n 0, 1) := by decide +kernel
theorem dX2_count_280 : decode cX2_count 280 = .ok (.getfield 10, 3) := by decide +kernel
theorem dX2_count_283 : decode cX2_count 283 = .ok (.getfield 175, 3) := by decide +kernel
theorem dX2_count_286 : decode cX2_count 286 = .ok (.ireturn, 1) := by decide +kernel
theorem dX2_count_287 : decode cX2_count 287 = .ok (.aload_n 0, 1) := by decide +kernel
theorem dX2_count_288 : decode cX2_count 288 = .ok (.getfield 10, 3) := by decide +kernel
theorem dX2_count_291 : decode cX2_count 291 = .ok (.getfield 178, 3) := by decide +kernel
theorem dX2_count_294 : decode cX2_count 294 = .ok (.ireturn, 1) := by decide +kernel
theorem dX2_count_295 : decode cX2_count 295 = .ok (.aload_n 0, 1) := by decide +kernel
theorem dX2_count_296 : decode cX2_count 296 = .ok (.getfield 111, 3) := by decide +kernel
theorem dX2_count_299 : decode cX2_count 299 = .ok (.ireturn, 1) := by decide +kernel
theorem dX2_count_300 : decode cX2_count 300 = .ok (.aload_n 0, 1) := by decide +kernel
theorem dX2_count_301 : decode cX2_count 301 = .ok (.getfield 29, 3) := by decide +kernel
theorem dX2_count_304 : decode cX2_count 304 = .ok (.getfield 108, 3) := by decide +kernel
theorem dX2_count_307 : decode cX2_count 307 = .ok (.ireturn, 1) := by decide +kernel
theorem dX2_count_308 : decode cX2_count 308 = .ok (.bipush (-2), 2) := by decide +kernel
theorem dX2_count_310 : decode cX2_count 310 = .ok (.ireturn, 1) := by decide +kernel
theorem dX2_isWithin_0 : decode cX2_isWithin 0 = .ok (.iload_n 0, 1) := by decide +kernel
theorem dX2_isWithin_1 : decode cX2_isWithin 1 = .ok (.iload_n 1, 1) := by decide +kernel
theorem dX2_isWithin_2 : decode cX2_isWithin 2 = .ok (.if_icmp .lt 12, 3) := by decide +kernel
theorem dX2_isWithin_5 : decode cX2_isWithin 5 = .ok (.iload_n 0, 1) := by decide +kernel
theorem dX2_isWithin_6 : decode cX2_isWithin 6 = .ok (.iload_n 2, 1) := by decide +kernel
theorem dX2_isWithin_7 : decode cX2_isWithin 7 = .ok (.if_icmp .gt 7, 3) := by decide +kernel
theorem dX2_isWithin_10 : decode cX2_isWithin 10 = .ok (.iconst 1, 1) := by decide +kernel
theorem dX2_isWithin_11 : decode cX2_isWithin 11 = .ok (.goto 4, 3) := by decide +kernel
theorem dX2_isWithin_14 : decode cX2_isWithin 14 = .ok (.iconst 0, 1) := by decide +kernel
theorem dX2_isWithin_15 : decode cX2_isWithin 15 = .ok (.ireturn, 1) := by decide +kernel
theorem dX2_isLength_0 : decode cX2_isLength 0 = .ok (.iload_n 0, 1) := by decide +kernel
theorem dX2_isLength_1 : decode cX2_isLength 1 = .ok (.bipush 10, 2) := by decide +kernel
theorem dX2_isLength_3 : decode cX2_isLength 3 = .ok (.sipush 400, 3) := by decide +kernel
theorem dX2_isLength_6 : decode cX2_isLength 6 = .ok (.invokestatic 66, 3) := by decide +kernel
theorem dX2_isLength_9 : decode cX2_isLength 9 = .ok (.ireturn, 1) := by decide +kernel
theorem dX2_isVoltage_0 : decode cX2_isVoltage 0 = .ok (.iload_n 0, 1) := by decide +kernel
theorem dX2_isVoltage_1 : decode cX2_isVoltage 1 = .ok (.sipush 500, 3) := by decide +kernel
theorem dX2_isVoltage_4 : decode cX2_isVoltage 4 = .ok (.sipush 1200, 3) := by decide +kernel
theorem dX2_isVoltage_7 : decode cX2_isVoltage 7 = .ok (.invokestatic 66, 3) := by decide +kernel
theorem dX2_isVoltage_10 : decode cX2_isVoltage 10 = .ok (.ireturn, 1) := by decide +kernel
theorem dX2_isPath_0 : decode cX2_isPath 0 = .ok (.iload_n 1, 1) := by decide +kernel
theorem dX2_isPath_1 : decode cX2_isPath 1 = .ok (.iconst 0, 1) := by decide +kernel
theorem dX2_isPath_2 : decode cX2_isPath 2 = .ok (.aload_n 0, 1) := by decide +kernel
theorem dX2_isPath_3 : decode cX2_isPath 3 = .ok (.getfield 10, 3) := by decide +kernel
theorem dX2_isPath_6 : decode cX2_isPath 6 = .ok (.getfield 37, 3) := by decide +kernel
theorem dX2_isPath_9 : decode cX2_isPath 9 = .ok (.iconst 1, 1) := by decide +kernel
theorem dX2_isPath_10 : decode cX2_isPath 10 = .ok (.isub, 1) := by decide +kernel
theorem dX2_isPath_11 : decode cX2_isPath 11 = .ok (.invokestatic 66, 3) := by decide +kernel
theorem dX2_isPath_14 : decode cX2_isPath 14 = .ok (.ireturn, 1) := by decide +kernel
theorem dX2_recordState_0 : decode cX2_recordState 0 = .ok (.aload_n 0, 1) := by decide +kernel
theorem dX2_recordState_1 : decode cX2_recordState 1 = .ok (.getfield 111, 3) := by decide +kernel
theorem dX2_recordState_4 : decode cX2_recordState 4 = .ok (.iconst 4, 1) := by decide +kernel
theorem dX2_recordState_5 : decode cX2_recordState 5 = .ok (.if_icmp .ne 7, 3) := by decide +kernel
theorem dX2_recordState_8 : decode cX2_recordState 8 = .ok (.aload_n 0, 1) := by decide +kernel
theorem dX2_recordState_9 : decode cX2_recordState 9 = .ok (.invokevirtual 181, 3) := by decide +kernel
theorem dX2_recordState_12 : decode cX2_recordState 12 = .ok (.aload_n 0, 1) := by decide +kernel
theorem dX2_recordState_13 : decode cX2_recordState 13 = .ok (.getfield 22, 3) := by decide +kernel
theorem dX2_recordState_16 : decode cX2_recordState 16 = .ok (.aload_n 0, 1) := by decide +kernel
theorem dX2_recordState_17 : decode cX2_recordState 17 = .ok (.getfield 111, 3) := by decide +kernel
theorem dX2_recordState_20 : decode cX2_recordState 20 = .ok (.aaload, 1) := by decide +kernel
theorem dX2_recordState_21 : decode cX2_recordState 21 = .ok (.aload_n 0, 1) := by decide +kernel
theorem dX2_recordState_22 : decode cX2_recordState 22 = .ok (.getfield 10, 3) := by decide +kernel
theorem dX2_recordState_25 : decode cX2_recordState 25 = .ok (.invokevirtual 114, 3) := by decide +kernel
theorem dX2_recordState_28 : decode cX2_recordState 28 = .ok (.aload_n 0, 1) := by decide +kernel
theorem dX2_recordState_29 : decode cX2_recordState 29 = .ok (.dup, 1) := by decide +kernel
theorem dX2_recordState_30 : decode cX2_recordState 30 = .ok (.getfield 111, 3) := by decide +kernel
theorem dX2_recordState_33 : decode cX2_recordState 33 = .ok (.iconst 1, 1) := by decide +kernel
theorem dX2_recordState_34 : decode cX2_recordState 34 = .ok (.iadd, 1) := by decide +kernel
theorem dX2_recordState_35 : decode cX2_recordState 35 = .ok (.putfield 111, 3) := by decide +kernel
theorem dX2_recordState_38 : decode cX2_recordState 38 = .ok (.return_, 1) := by decide +kernel
theorem dX2_dropOldestState_0 : decode cX2_dropOldestState 0 = .ok (.aload_n 0, 1) := by decide +kernel
theorem dX2_dropOldestState_1 : decode cX2_dropOldestState 1 = .ok (.getfield 22, 3) := by decide +kernel
theorem dX2_dropOldestState_4 : decode cX2_dropOldestState 4 = .ok (.iconst 0, 1) := by decide +kernel
theorem dX2_dropOldestState_5 : decode cX2_dropOldestState 5 = .ok (.aaload, 1) := by decide +kernel
theorem dX2_dropOldestState_6 : decode cX2_dropOldestState 6 = .ok (.astore_n 1, 1) := by decide +kernel
theorem dX2_dropOldestState_7 : decode cX2_dropOldestState 7 = .ok (.iconst 1, 1) := by decide +kernel
theorem dX2_dropOldestState_8 : decode cX2_dropOldestState 8 = .ok (.istore_n 2, 1) := by decide +kernel
theorem dX2_dropOldestState_9 : decode cX2_dropOldestState 9 = .ok (.iload_n 2, 1) := by decide +kernel
theorem dX2_dropOldestState_10 : decode cX2_dropOldestState 10 = .ok (.iconst 4, 1) := by decide +kernel
theorem dX2_dropOldestState_11 : decode cX2_dropOldestState 11 = .ok (.if_icmp .ge 23, 3) := by decide +kernel
theorem dX2_dropOldestState_14 : decode cX2_dropOldestState 14 = .ok (.aload_n 0, 1) := by decide +kernel
theorem dX2_dropOldestState_15 : decode cX2_dropOldestState 15 = .ok (.getfield 22, 3) := by decide +kernel
theorem dX2_dropOldestState_18 : decode cX2_dropOldestState 18 = .ok (.iload_n 2, 1) := by decide +kernel
theorem dX2_dropOldestState_19 : decode cX2_dropOldestState 19 = .ok (.iconst 1, 1) := by decide +kernel
theorem dX2_dropOldestState_20 : decode cX2_dropOldestState 20 = .ok (.isub, 1) := by decide +kernel
theorem dX2_dropOldestState_21 : decode cX2_dropOldestState 21 = .ok (.aload_n 0, 1) := by decide +kernel
