theorem dX3_keep_20 : decode cX3_keep 20 = .ok (.bipush 39, 2) := by decide +kernel
theorem dX3_keep_22 : decode cX3_keep 22 = .ok (.iaload, 1) := by decide +kernel
theorem dX3_keep_23 : decode cX3_keep 23 = .ok (.ireturn, 1) := by decide +kernel
theorem dX3_restore_0 : decode cX3_restore 0 = .ok (.aload_n 0, 1) := by decide +kernel
theorem dX3_restore_1 : decode cX3_restore 1 = .ok (.getfield 144, 3) := by decide +kernel
theorem dX3_restore_4 : decode cX3_restore 4 = .ok (.ifCond .ne 6, 3) := by decide +kernel
theorem dX3_restore_7 : decode cX3_restore 7 = .ok (.bipush (-5), 2) := by decide +kernel
theorem dX3_restore_9 : decode cX3_restore 9 = .ok (.ireturn, 1) := by decide +kernel
theorem dX3_restore_10 : decode cX3_restore 10 = .ok (.aload_n 0, 1) := by decide +kernel
theorem dX3_restore_11 : decode cX3_restore 11 = .ok (.invokevirtual 77, 3) := by decide +kernel
theorem dX3_restore_14 : decode cX3_restore 14 = .ok (.aload_n 0, 1) := by decide +kernel
theorem dX3_restore_15 : decode cX3_restore 15 = .ok (.getfield 22, 3) := by decide +kernel
theorem dX3_restore_18 : decode cX3_restore 18 = .ok (.aload_n 0, 1) := by decide +kernel
theorem dX3_restore_19 : decode cX3_restore 19 = .ok (.getfield 7, 3) := by decide +kernel
theorem dX3_restore_22 : decode cX3_restore 22 = .ok (.invokestatic 31, 3) := by decide +kernel
theorem dX3_restore_25 : decode cX3_restore 25 = .ok (.aload_n 0, 1) := by decide +kernel
theorem dX3_restore_26 : decode cX3_restore 26 = .ok (.aload_n 0, 1) := by decide +kernel
theorem dX3_restore_27 : decode cX3_restore 27 = .ok (.getfield 7, 3) := by decide +kernel
theorem dX3_restore_30 : decode cX3_restore 30 = .ok (.bipush 39, 2) := by decide +kernel
theorem dX3_restore_32 : decode cX3_restore 32 = .ok (.iaload, 1) := by decide +kernel
theorem dX3_restore_33 : decode cX3_restore 33 = .ok (.invokevirtual 80, 3) := by decide +kernel
theorem dX3_restore_36 : decode cX3_restore 36 = .ok (.ireturn, 1) := by decide +kernel
theorem dX3_setsWith_0 : decode cX3_setsWith 0 = .ok (.iconst 0, 1) := by decide +kernel
theorem dX3_setsWith_1 : decode cX3_setsWith 1 = .ok (.istore_n 2, 1) := by decide +kernel
theorem dX3_setsWith_2 : decode cX3_setsWith 2 = .ok (.iconst 0, 1) := by decide +kernel
theorem dX3_setsWith_3 : decode cX3_setsWith 3 = .ok (.istore_n 3, 1) := by decide +kernel
theorem dX3_setsWith_4 : decode cX3_setsWith 4 = .ok (.iload_n 3, 1) := by decide +kernel
theorem dX3_setsWith_5 : decode cX3_setsWith 5 = .ok (.aload_n 0, 1) := by decide +kernel
theorem dX3_setsWith_6 : decode cX3_setsWith 6 = .ok (.getfield 7, 3) := by decide +kernel
theorem dX3_setsWith_9 : decode cX3_setsWith 9 = .ok (.bipush 49, 2) := by decide +kernel
theorem dX3_setsWith_11 : decode cX3_setsWith 11 = .ok (.iaload, 1) := by decide +kernel
theorem dX3_setsWith_12 : decode cX3_setsWith 12 = .ok (.if_icmp .ge 33, 3) := by decide +kernel
theorem dX3_setsWith_15 : decode cX3_setsWith 15 = .ok (.iload_n 2, 1) := by decide +kernel
theorem dX3_setsWith_16 : decode cX3_setsWith 16 = .ok (.aload_n 0, 1) := by decide +kernel
theorem dX3_setsWith_17 : decode cX3_setsWith 17 = .ok (.getfield 7, 3) := by decide +kernel
theorem dX3_setsWith_20 : decode cX3_setsWith 20 = .ok (.bipush 16, 2) := by decide +kernel
theorem dX3_setsWith_22 : decode cX3_setsWith 22 = .ok (.iload_n 3, 1) := by decide +kernel
theorem dX3_setsWith_23 : decode cX3_setsWith 23 = .ok (.iadd, 1) := by decide +kernel
theorem dX3_setsWith_24 : decode cX3_setsWith 24 = .ok (.iaload, 1) := by decide +kernel
theorem dX3_setsWith_25 : decode cX3_setsWith 25 = .ok (.iload_n 1, 1) := by decide +kernel
theorem dX3_setsWith_26 : decode cX3_setsWith 26 = .ok (.invokestatic 47, 3) := by decide +kernel
theorem dX3_setsWith_29 : decode cX3_setsWith 29 = .ok (.ifCond .eq 7, 3) := by decide +kernel
theorem dX3_setsWith_32 : decode cX3_setsWith 32 = .ok (.iconst 1, 1) := by decide +kernel
theorem dX3_setsWith_33 : decode cX3_setsWith 33 = .ok (.goto 4, 3) := by decide +kernel
theorem dX3_setsWith_36 : decode cX3_setsWith 36 = .ok (.iconst 0, 1) := by decide +kernel
theorem dX3_setsWith_37 : decode cX3_setsWith 37 = .ok (.iadd, 1) := by decide +kernel
theorem dX3_setsWith_38 : decode cX3_setsWith 38 = .ok (.istore_n 2, 1) := by decide +kernel
theorem dX3_setsWith_39 : decode cX3_setsWith 39 = .ok (.iinc 3 1, 3) := by decide +kernel
theorem dX3_setsWith_42 : decode cX3_setsWith 42 = .ok (.goto (-38), 3) := by decide +kernel
theorem dX3_setsWith_45 : decode cX3_setsWith 45 = .ok (.iload_n 2, 1) := by decide +kernel
theorem dX3_setsWith_46 : decode cX3_setsWith 46 = .ok (.ireturn, 1) := by decide +kernel
theorem dX3_path_0 : decode cX3_path 0 = .ok (.aload_n 0, 1) := by decide +kernel
theorem dX3_path_1 : decode cX3_path 1 = .ok (.iload_n 1, 1) := by decide +kernel
theorem dX3_path_2 : decode cX3_path 2 = .ok (.invokevirtual 83, 3) := by decide +kernel
theorem dX3_path_5 : decode cX3_path 5 = .ok (.ifCond .ne 5, 3) := by decide +kernel
theorem dX3_path_8 : decode cX3_path 8 = .ok (.iconst (-1), 1) := by decide +kernel
theorem dX3_path_9 : decode cX3_path 9 = .ok (.ireturn, 1) := by decide +kernel
theorem dX3_path_10 : decode cX3_path 10 = .ok (.iload_n 2, 1) := by decide +kernel
theorem dX3_path_11 : decode cX3_path 11 = .ok (.tableswitch 91 0 4 #[33, 42, 62, 75, 85], 33) := by decide +kernel
theorem dX3_path_44 : decode cX3_path 44 = .ok (.aload_n 0, 1) := by decide +kernel
theorem dX3_path_45 : decode cX3_path 45 = .ok (.getfield 7, 3) := by decide +kernel
theorem dX3_path_48 : decode cX3_path 48 = .ok (.iconst 0, 1) := by decide +kernel
theorem dX3_path_49 : decode cX3_path 49 = .ok (.iload_n 1, 1) := by decide +kernel
theorem dX3_path_50 : decode cX3_path 50 = .ok (.iadd, 1) := by decide +kernel
theorem dX3_path_51 : decode cX3_path 51 = .ok (.iaload, 1) := by decide +kernel
theorem dX3_path_52 : decode cX3_path 52 = .ok (.ireturn, 1) := by decide +kernel
theorem dX3_path_53 : decode cX3_path 53 = .ok (.aload_n 0, 1) := by decide +kernel
theorem dX3_path_54 : decode cX3_path 54 = .ok (.iload_n 1, 1) := by decide +kernel
theorem dX3_path_55 : decode cX3_path 55 = .ok (.aload_n 0, 1) := by decide +kernel
theorem dX3_path_56 : decode cX3_path 56 = .ok (.getfield 7, 3) := by decide +kernel
theorem dX3_path_59 : decode cX3_path 59 = .ok (.bipush 39, 2) := by decide +kernel
theorem dX3_path_61 : decode cX3_path 61 = .ok (.iaload, 1) := by decide +kernel
theorem dX3_path_62 : decode cX3_path 62 = .ok (.aload_n 0, 1) := by decide +kernel
theorem dX3_path_63 : decode cX3_path 63 = .ok (.getfield 7, 3) := by decide +kernel
theorem dX3_path_66 : decode cX3_path 66 = .ok (.bipush 40, 2) := by decide +kernel
theorem dX3_path_68 : decode cX3_path 68 = .ok (.iaload, 1) := by decide +kernel
theorem dX3_path_69 : decode cX3_path 69 = .ok (.invokevirtual 43, 3) := by decide +kernel
theorem dX3_path_72 : decode cX3_path 72 = .ok (.ireturn, 1) := by decide +kernel
theorem dX3_path_73 : decode cX3_path 73 = .ok (.aload_n 0, 1) := by decide +kernel
theorem dX3_path_74 : decode cX3_path 74 = .ok (.iload_n 1, 1) := by decide +kernel
theorem dX3_path_75 : decode cX3_path 75 = .ok (.aload_n 0, 1) := by decide +kernel
theorem dX3_path_76 : decode cX3_path 76 = .ok (.getfield 7, 3) := by decide +kernel
theorem dX3_path_79 : decode cX3_path 79 = .ok (.bipush 39, 2) := by decide +kernel
theorem dX3_path_81 : decode cX3_path 81 = .ok (.iaload, 1) := by decide +kernel
theorem dX3_path_82 : decode cX3_path 82 = .ok (.invokevirtual 51, 3) := by decide +kernel
theorem dX3_path_85 : decode cX3_path 85 = .ok (.ireturn, 1) := by decide +kernel
theorem dX3_path_86 : decode cX3_path 86 = .ok (.aload_n 0, 1) := by decide +kernel
theorem dX3_path_87 : decode cX3_path 87 = .ok (.getfield 7, 3) := by decide +kernel
theorem dX3_path_90 : decode cX3_path 90 = .ok (.bipush 8, 2) := by decide +kernel
theorem dX3_path_92 : decode cX3_path 92 = .ok (.iload_n 1, 1) := by decide +kernel
theorem dX3_path_93 : decode cX3_path 93 = .ok (.iadd, 1) := by decide +kernel
theorem dX3_path_94 : decode cX3_path 94 = .ok (.iaload, 1) := by decide +kernel
theorem dX3_path_95 : decode cX3_path 95 = .ok (.ireturn, 1) := by decide +kernel
theorem dX3_path_96 : decode cX3_path 96 = .ok (.aload_n 0, 1) := by decide +kernel
theorem dX3_path_97 : decode cX3_path 97 = .ok (.iload_n 1, 1) := by decide +kernel
theorem dX3_path_98 : decode cX3_path 98 = .ok (.invokevirtual 147, 3) := by decide +kernel
theorem dX3_path_101 : decode cX3_path 101 = .ok (.ireturn, 1) := by decide +kernel
theorem dX3_path_102 : decode cX3_path 102 = .ok (.bipush (-2), 2) := by decide +kernel
theorem dX3_path_104 : decode cX3_path 104 = .ok (.ireturn, 1) := by decide +kernel
theorem dX3_delay_0 : decode cX3_delay 0 = .ok (.aload_n 0, 1) := by decide +kernel
theorem dX3_delay_1 : decode cX3_delay 1 = .ok (.iload_n 1, 1) := by decide +kernel
theorem dX3_delay_2 : decode cX3_delay 2 = .ok (.invokevirtual 83, 3) := by decide +kernel
theorem dX3_delay_5 : decode cX3_delay 5 = .ok (.ifCond .ne 5, 3) := by decide +kernel
theorem dX3_delay_8 : decode cX3_delay 8 = .ok (.iconst (-1), 1) := by decide +kernel
theorem dX3_delay_9 : decode cX3_delay 9 = .ok (.ireturn, 1) := by decide +kernel
theorem dX3_delay_10 : decode cX3_delay 10 = .ok (.iload_n 2, 1) := by decide +kernel
theorem dX3_delay_11 : decode cX3_delay 11 = .ok (.invokestatic 123, 3) := by decide +kernel
theorem dX3_delay_14 : decode cX3_delay 14 = .ok (.ifCond .eq 27, 3) := by decide +kernel
theorem dX3_delay_17 : decode cX3_delay 17 = .ok (.iload_n 3, 1) := by decide +kernel
theorem dX3_delay_18 : decode cX3_delay 18 = .ok (.i2l, 1) := by decide +kernel
theorem dX3_delay_19 : decode cX3_delay 19 = .ok (.ldc2_w 132, 3) := by decide +kernel
theorem dX3_delay_22 : decode cX3_delay 22 = .ok (.ldc2_w 150, 3) := by decide +kernel
theorem dX3_delay_25 : decode cX3_delay 25 = .ok (.invokestatic 39, 3) := by decide +kernel
theorem dX3_delay_28 : decode cX3_delay 28 = .ok (.ifCond .eq 13, 3) := by decide +kernel
theorem dX3_delay_31 : decode cX3_delay 31 = .ok (.aload_n 0, 1) := by decide +kernel
theorem dX3_delay_32 : decode cX3_delay 32 = .ok (.iload_n 1, 1) := by decide +kernel
theorem dX3_delay_33 : decode cX3_delay 33 = .ok (.iload_n 2, 1) := by decide +kernel
theorem dX3_delay_34 : decode cX3_delay 34 = .ok (.iload_n 3, 1) := by decide +kernel
theorem dX3_delay_35 : decode cX3_delay 35 = .ok (.invokevirtual 43, 3) := by decide +kernel
theorem dX3_delay_38 : decode cX3_delay 38 = .ok (.goto 5, 3) := by decide +kernel
theorem dX3_delay_41 : decode cX3_delay 41 = .ok (.bipush (-2), 2) := by decide +kernel
theorem dX3_delay_43 : decode cX3_delay 43 = .ok (.ireturn, 1) := by decide +kernel
theorem dX3_workload_0 : decode cX3_workload 0 = .ok (.iload_n 1, 1) := by decide +kernel
theorem dX3_workload_1 : decode cX3_workload 1 = .ok (.ifCond .ge 6, 3) := by decide +kernel
theorem dX3_workload_4 : decode cX3_workload 4 = .ok (.bipush (-2), 2) := by decide +kernel
theorem dX3_workload_6 : decode cX3_workload 6 = .ok (.ireturn, 1) := by decide +kernel
theorem dX3_workload_7 : decode cX3_workload 7 = .ok (.iload_n 1, 1) := by decide +kernel
theorem dX3_workload_8 : decode cX3_workload 8 = .ok (.aload_n 0, 1) := by decide +kernel
theorem dX3_workload_9 : decode cX3_workload 9 = .ok (.getfield 7, 3) := by decide +kernel
theorem dX3_workload_12 : decode cX3_workload 12 = .ok (.bipush 49, 2) := by decide +kernel
theorem dX3_workload_14 : decode cX3_workload 14 = .ok (.iaload, 1) := by decide +kernel
theorem dX3_workload_15 : decode cX3_workload 15 = .ok (.if_icmp .ge 15, 3) := by decide +kernel
theorem dX3_workload_18 : decode cX3_workload 18 = .ok (.aload_n 0, 1) := by decide +kernel
theorem dX3_workload_19 : decode cX3_workload 19 = .ok (.getfield 7, 3) := by decide +kernel
theorem dX3_workload_22 : decode cX3_workload 22 = .ok (.bipush 16, 2) := by decide +kernel
theorem dX3_workload_24 : decode cX3_workload 24 = .ok (.iload_n 1, 1) := by decide +kernel
theorem dX3_workload_25 : decode cX3_workload 25 = .ok (.iadd, 1) := by decide +kernel
theorem dX3_workload_26 : decode cX3_workload 26 = .ok (.iaload, 1) := by decide +kernel
theorem dX3_workload_27 : decode cX3_workload 27 = .ok (.goto 5, 3) := by decide +kernel
theorem dX3_workload_30 : decode cX3_workload 30 = .ok (.bipush (-5), 2) := by decide +kernel
theorem dX3_workload_32 : decode cX3_workload 32 = .ok (.ireturn, 1) := by decide +kernel
theorem dX3_areWell_0 : decode cX3_areWell 0 = .ok (.iconst 1, 1) := by decide +kernel
theorem dX3_areWell_1 : decode cX3_areWell 1 = .ok (.istore_n 3, 1) := by decide +kernel
theorem dX3_areWell_2 : decode cX3_areWell 2 = .ok (.iconst 0, 1) := by decide +kernel
theorem dX3_areWell_3 : decode cX3_areWell 3 = .ok (.istore 4, 2) := by decide +kernel
theorem dX3_areWell_5 : decode cX3_areWell 5 = .ok (.iload 4, 2) := by decide +kernel
theorem dX3_areWell_7 : decode cX3_areWell 7 = .ok (.aload_n 0, 1) := by decide +kernel
theorem dX3_areWell_8 : decode cX3_areWell 8 = .ok (.getfield 7, 3) := by decide +kernel
theorem dX3_areWell_11 : decode cX3_areWell 11 = .ok (.bipush 51, 2) := by decide +kernel
theorem dX3_areWell_13 : decode cX3_areWell 13 = .ok (.iaload, 1) := by decide +kernel
theorem dX3_areWell_14 : decode cX3_areWell 14 = .ok (.if_icmp .ge 39, 3) := by decide +kernel
theorem dX3_areWell_17 : decode cX3_areWell 17 = .ok (.iload_n 3, 1) := by decide +kernel
theorem dX3_areWell_18 : decode cX3_areWell 18 = .ok (.ifCond .eq 27, 3) := by decide +kernel
theorem dX3_areWell_21 : decode cX3_areWell 21 = .ok (.aload_n 0, 1) := by decide +kernel
theorem dX3_areWell_22 : decode cX3_areWell 22 = .ok (.iload 4, 2) := by decide +kernel
theorem dX3_areWell_24 : decode cX3_areWell 24 = .ok (.invokevirtual 147, 3) := by decide +kernel
theorem dX3_areWell_27 : decode cX3_areWell 27 = .ok (.ifCond .eq 14, 3) := by decide +kernel
theorem dX3_areWell_30 : decode cX3_areWell 30 = .ok (.aload_n 0, 1) := by decide +kernel
theorem dX3_areWell_31 : decode cX3_areWell 31 = .ok (.iload 4, 2) := by decide +kernel
theorem dX3_areWell_33 : decode cX3_areWell 33 = .ok (.iload_n 1, 1) := by decide +kernel
theorem dX3_areWell_34 : decode cX3_areWell 34 = .ok (.invokevirtual 51, 3) := by decide +kernel
theorem dX3_areWell_37 : decode cX3_areWell 37 = .ok (.iload_n 2, 1) := by decide +kernel
theorem dX3_areWell_38 : decode cX3_areWell 38 = .ok (.if_icmp .gt 7, 3) := by decide +kernel
theorem dX3_areWell_41 : decode cX3_areWell 41 = .ok (.iconst 1, 1) := by decide +kernel
theorem dX3_areWell_42 : decode cX3_areWell 42 = .ok (.goto 4, 3) := by decide +kernel
theorem dX3_areWell_45 : decode cX3_areWell 45 = .ok (.iconst 0, 1) := by decide +kernel
theorem dX3_areWell_46 : decode cX3_areWell 46 = .ok (.istore_n 3, 1) := by decide +kernel
theorem dX3_areWell_47 : decode cX3_areWell 47 = .ok (.iinc 4 1, 3) := by decide +kernel
theorem dX3_areWell_50 : decode cX3_areWell 50 = .ok (.goto (-45), 3) := by decide +kernel
theorem dX3_areWell_53 : decode cX3_areWell 53 = .ok (.iload_n 3, 1) := by decide +kernel
theorem dX3_areWell_54 : decode cX3_areWell 54 = .ok (.ireturn, 1) := by decide +kernel
theorem dX3_least_0 : decode cX3_least 0 = .ok (.sipush 500, 3) := by decide +kernel
theorem dX3_least_3 : decode cX3_least 3 = .ok (.istore_n 2, 1) := by decide +kernel
theorem dX3_least_4 : decode cX3_least 4 = .ok (.iload_n 2, 1) := by decide +kernel
theorem dX3_least_5 : decode cX3_least 5 = .ok (.sipush 1200, 3) := by decide +kernel
theorem dX3_least_8 : decode cX3_least 8 = .ok (.if_icmp .gt 28, 3) := by decide +kernel
theorem dX3_least_11 : decode cX3_least 11 = .ok (.aload_n 0, 1) := by decide +kernel
theorem dX3_least_12 : decode cX3_least 12 = .ok (.iload_n 2, 1) := by decide +kernel
theorem dX3_least_13 : decode cX3_least 13 = .ok (.iload_n 1, 1) := by decide +kernel
theorem dX3_least_14 : decode cX3_least 14 = .ok (.ifCond .eq 7, 3) := by decide +kernel
theorem dX3_least_17 : decode cX3_least 17 = .ok (.iconst 1, 1) := by decide +kernel
theorem dX3_least_18 : decode cX3_least 18 = .ok (.goto 4, 3) := by decide +kernel
theorem dX3_least_21 : decode cX3_least 21 = .ok (.iconst 0, 1) := by decide +kernel
theorem dX3_least_22 : decode cX3_least 22 = .ok (.invokevirtual 152, 3) := by decide +kernel
theorem dX3_least_25 : decode cX3_least 25 = .ok (.ifCond .eq 5, 3) := by decide +kernel
theorem dX3_least_28 : decode cX3_least 28 = .ok (.iload_n 2, 1) := by decide +kernel
theorem dX3_least_29 : decode cX3_least 29 = .ok (.ireturn, 1) := by decide +kernel
theorem dX3_least_30 : decode cX3_least 30 = .ok (.iinc 2 1, 3) := by decide +kernel
theorem dX3_least_33 : decode cX3_least 33 = .ok (.goto (-29), 3) := by decide +kernel
theorem dX3_least_36 : decode cX3_least 36 = .ok (.bipush (-5), 2) := by decide +kernel
theorem dX3_least_38 : decode cX3_least 38 = .ok (.ireturn, 1) := by decide +kernel
theorem dX3_energySince_0 : decode cX3_energySince 0 = .ok (.aload_n 0, 1) := by decide +kernel
theorem dX3_energySince_1 : decode cX3_energySince 1 = .ok (.getfield 7, 3) := by decide +kernel
theorem dX3_energySince_4 : decode cX3_energySince 4 = .ok (.bipush 46, 2) := by decide +kernel
theorem dX3_energySince_6 : decode cX3_energySince 6 = .ok (.iaload, 1) := by decide +kernel
theorem dX3_energySince_7 : decode cX3_energySince 7 = .ok (.aload_n 1, 1) := by decide +kernel
theorem dX3_energySince_8 : decode cX3_energySince 8 = .ok (.bipush 46, 2) := by decide +kernel
theorem dX3_energySince_10 : decode cX3_energySince 10 = .ok (.iaload, 1) := by decide +kernel
theorem dX3_energySince_11 : decode cX3_energySince 11 = .ok (.isub, 1) := by decide +kernel
theorem dX3_energySince_12 : decode cX3_energySince 12 = .ok (.sipush 1000, 3) := by decide +kernel
theorem dX3_energySince_15 : decode cX3_energySince 15 = .ok (.imul, 1) := by decide +kernel
theorem dX3_energySince_16 : decode cX3_energySince 16 = .ok (.aload_n 0, 1) := by decide +kernel
theorem dX3_energySince_17 : decode cX3_energySince 17 = .ok (.getfield 7, 3) := by decide +kernel
theorem dX3_energySince_20 : decode cX3_energySince 20 = .ok (.bipush 54, 2) := by decide +kernel
theorem dX3_energySince_22 : decode cX3_energySince 22 = .ok (.iaload, 1) := by decide +kernel
theorem dX3_energySince_23 : decode cX3_energySince 23 = .ok (.iadd, 1) := by decide +kernel
theorem dX3_energySince_24 : decode cX3_energySince 24 = .ok (.aload_n 1, 1) := by decide +kernel
theorem dX3_energySince_25 : decode cX3_energySince 25 = .ok (.bipush 54, 2) := by decide +kernel
theorem dX3_energySince_27 : decode cX3_energySince 27 = .ok (.iaload, 1) := by decide +kernel
theorem dX3_energySince_28 : decode cX3_energySince 28 = .ok (.isub, 1) := by decide +kernel
theorem dX3_energySince_29 : decode cX3_energySince 29 = .ok (.ireturn, 1) := by decide +kernel
theorem dX3_brings_0 : decode cX3_brings 0 = .ok (.aload_n 0, 1) := by decide +kernel
theorem dX3_brings_1 : decode cX3_brings 1 = .ok (.getfield 7, 3) := by decide +kernel
theorem dX3_brings_4 : decode cX3_brings 4 = .ok (.aload_n 0, 1) := by decide +kernel
theorem dX3_brings_5 : decode cX3_brings 5 = .ok (.getfield 16, 3) := by decide +kernel
theorem dX3_brings_8 : decode cX3_brings 8 = .ok (.invokestatic 31, 3) := by decide +kernel
theorem dX3_brings_11 : decode cX3_brings 11 = .ok (.aload_n 0, 1) := by decide +kernel
theorem dX3_brings_12 : decode cX3_brings 12 = .ok (.getfield 7, 3) := by decide +kernel
theorem dX3_brings_15 : decode cX3_brings 15 = .ok (.bipush 39, 2) := by decide +kernel
theorem dX3_brings_17 : decode cX3_brings 17 = .ok (.iload_n 1, 1) := by decide +kernel
theorem dX3_brings_18 : decode cX3_brings 18 = .ok (.iastore, 1) := by decide +kernel
theorem dX3_brings_19 : decode cX3_brings 19 = .ok (.aload_n 0, 1) := by decide +kernel
theorem dX3_brings_20 : decode cX3_brings 20 = .ok (.getfield 7, 3) := by decide +kernel
theorem dX3_brings_23 : decode cX3_brings 23 = .ok (.bipush 41, 2) := by decide +kernel
theorem dX3_brings_25 : decode cX3_brings 25 = .ok (.iconst 0, 1) := by decide +kernel
theorem dX3_brings_26 : decode cX3_brings 26 = .ok (.iastore, 1) := by decide +kernel
theorem dX3_brings_27 : decode cX3_brings 27 = .ok (.iconst 0, 1) := by decide +kernel
theorem dX3_brings_28 : decode cX3_brings 28 = .ok (.istore 4, 2) := by decide +kernel
theorem dX3_brings_30 : decode cX3_brings 30 = .ok (.iload 4, 2) := by decide +kernel
theorem dX3_brings_32 : decode cX3_brings 32 = .ok (.iload_n 2, 1) := by decide +kernel
theorem dX3_brings_33 : decode cX3_brings 33 = .ok (.if_icmp .ge 13, 3) := by decide +kernel
theorem dX3_brings_36 : decode cX3_brings 36 = .ok (.aload_n 0, 1) := by decide +kernel
theorem dX3_brings_37 : decode cX3_brings 37 = .ok (.invokevirtual 141, 3) := by decide +kernel
theorem dX3_brings_40 : decode cX3_brings 40 = .ok (.iinc 4 1, 3) := by decide +kernel
theorem dX3_brings_43 : decode cX3_brings 43 = .ok (.goto (-13), 3) := by decide +kernel
theorem dX3_brings_46 : decode cX3_brings 46 = .ok (.iload_n 3, 1) := by decide +kernel
theorem dX3_brings_47 : decode cX3_brings 47 = .ok (.ifCond .ne 21, 3) := by decide +kernel
theorem dX3_brings_50 : decode cX3_brings 50 = .ok (.aload_n 0, 1) := by decide +kernel
theorem dX3_brings_51 : decode cX3_brings 51 = .ok (.getfield 7, 3) := by decide +kernel
theorem dX3_brings_54 : decode cX3_brings 54 = .ok (.bipush 44, 2) := by decide +kernel
theorem dX3_brings_56 : decode cX3_brings 56 = .ok (.iaload, 1) := by decide +kernel
theorem dX3_brings_57 : decode cX3_brings 57 = .ok (.aload_n 0, 1) := by decide +kernel
theorem dX3_brings_58 : decode cX3_brings 58 = .ok (.getfield 16, 3) := by decide +kernel
theorem dX3_brings_61 : decode cX3_brings 61 = .ok (.bipush 44, 2) := by decide +kernel
theorem dX3_brings_63 : decode cX3_brings 63 = .ok (.iaload, 1) := by decide +kernel
theorem dX3_brings_64 : decode cX3_brings 64 = .ok (.isub, 1) := by decide +kernel
theorem dX3_brings_65 : decode cX3_brings 65 = .ok (.goto 72, 3) := by decide +kernel
theorem dX3_brings_68 : decode cX3_brings 68 = .ok (.iload_n 3, 1) := by decide +kernel
theorem dX3_brings_69 : decode cX3_brings 69 = .ok (.iconst 1, 1) := by decide +kernel
theorem dX3_brings_70 : decode cX3_brings 70 = .ok (.if_icmp .ne 21, 3) := by decide +kernel
theorem dX3_brings_73 : decode cX3_brings 73 = .ok (.aload_n 0, 1) := by decide +kernel
theorem dX3_brings_74 : decode cX3_brings 74 = .ok (.getfield 7, 3) := by decide +kernel
theorem dX3_brings_77 : decode cX3_brings 77 = .ok (.bipush 45, 2) := by decide +kernel
theorem dX3_brings_79 : decode cX3_brings 79 = .ok (.iaload, 1) := by decide +kernel
theorem dX3_brings_80 : decode cX3_brings 80 = .ok (.aload_n 0, 1) := by decide +kernel
theorem dX3_brings_81 : decode cX3_brings 81 = .ok (.getfield 16, 3) := by decide +kernel
theorem dX3_brings_84 : decode cX3_brings 84 = .ok (.bipush 45, 2) := by decide +kernel
theorem dX3_brings_86 : decode cX3_brings 86 = .ok (.iaload, 1) := by decide +kernel
theorem dX3_brings_87 : decode cX3_brings 87 = .ok (.isub, 1) := by decide +kernel
theorem dX3_brings_88 : decode cX3_brings 88 = .ok (.goto 49, 3) := by decide +kernel
theorem dX3_brings_91 : decode cX3_brings 91 = .ok (.iload_n 3, 1) := by decide +kernel
theorem dX3_brings_92 : decode cX3_brings 92 = .ok (.iconst 2, 1) := by decide +kernel
theorem dX3_brings_93 : decode cX3_brings 93 = .ok (.if_icmp .ne 14, 3) := by decide +kernel
theorem dX3_brings_96 : decode cX3_brings 96 = .ok (.aload_n 0, 1) := by decide +kernel
theorem dX3_brings_97 : decode cX3_brings 97 = .ok (.aload_n 0, 1) := by decide +kernel
theorem dX3_brings_98 : decode cX3_brings 98 = .ok (.getfield 16, 3) := by decide +kernel
theorem dX3_brings_101 : decode cX3_brings 101 = .ok (.invokevirtual 155, 3) := by decide +kernel
theorem dX3_brings_104 : decode cX3_brings 104 = .ok (.goto 33, 3) := by decide +kernel
theorem dX3_brings_107 : decode cX3_brings 107 = .ok (.iload_n 3, 1) := by decide +kernel
theorem dX3_brings_108 : decode cX3_brings 108 = .ok (.iconst 3, 1) := by decide +kernel
theorem dX3_brings_109 : decode cX3_brings 109 = .ok (.if_icmp .ne 21, 3) := by decide +kernel
theorem dX3_brings_112 : decode cX3_brings 112 = .ok (.aload_n 0, 1) := by decide +kernel
theorem dX3_brings_113 : decode cX3_brings 113 = .ok (.getfield 7, 3) := by decide +kernel
theorem dX3_brings_116 : decode cX3_brings 116 = .ok (.bipush 42, 2) := by decide +kernel
theorem dX3_brings_118 : decode cX3_brings 118 = .ok (.iaload, 1) := by decide +kernel
theorem dX3_brings_119 : decode cX3_brings 119 = .ok (.aload_n 0, 1) := by decide +kernel
theorem dX3_brings_120 : decode cX3_brings 120 = .ok (.getfield 16, 3) := by decide +kernel
theorem dX3_brings_123 : decode cX3_brings 123 = .ok (.bipush 42, 2) := by decide +kernel
theorem dX3_brings_125 : decode cX3_brings 125 = .ok (.iaload, 1) := by decide +kernel
theorem dX3_brings_126 : decode cX3_brings 126 = .ok (.isub, 1) := by decide +kernel
theorem dX3_brings_127 : decode cX3_brings 127 = .ok (.goto 10, 3) := by decide +kernel
theorem dX3_brings_130 : decode cX3_brings 130 = .ok (.aload_n 0, 1) := by decide +kernel
theorem dX3_brings_131 : decode cX3_brings 131 = .ok (.getfield 7, 3) := by decide +kernel
theorem dX3_brings_134 : decode cX3_brings 134 = .ok (.bipush 40, 2) := by decide +kernel
theorem dX3_brings_136 : decode cX3_brings 136 = .ok (.iaload, 1) := by decide +kernel
theorem dX3_brings_137 : decode cX3_brings 137 = .ok (.istore 4, 2) := by decide +kernel
theorem dX3_brings_139 : decode cX3_brings 139 = .ok (.aload_n 0, 1) := by decide +kernel
theorem dX3_brings_140 : decode cX3_brings 140 = .ok (.getfield 16, 3) := by decide +kernel
theorem dX3_brings_143 : decode cX3_brings 143 = .ok (.aload_n 0, 1) := by decide +kernel
theorem dX3_brings_144 : decode cX3_brings 144 = .ok (.getfield 7, 3) := by decide +kernel
theorem dX3_brings_147 : decode cX3_brings 147 = .ok (.invokestatic 31, 3) := by decide +kernel
theorem dX3_brings_150 : decode cX3_brings 150 = .ok (.iload 4, 2) := by decide +kernel
theorem dX3_brings_152 : decode cX3_brings 152 = .ok (.ireturn, 1) := by decide +kernel
theorem dX3_would_0 : decode cX3_would 0 = .ok (.iload_n 1, 1) := by decide +kernel
theorem dX3_would_1 : decode cX3_would 1 = .ok (.invokestatic 123, 3) := by decide +kernel
theorem dX3_would_4 : decode cX3_would 4 = .ok (.ifCond .eq 37, 3) := by decide +kernel
theorem dX3_would_7 : decode cX3_would 7 = .ok (.iload_n 2, 1) := by decide +kernel
theorem dX3_would_8 : decode cX3_would 8 = .ok (.i2l, 1) := by decide +kernel
theorem dX3_would_9 : decode cX3_would 9 = .ok (.lconst 1, 1) := by decide +kernel
theorem dX3_would_10 : decode cX3_would 10 = .ok (.ldc2_w 119, 3) := by decide +kernel
theorem dX3_would_13 : decode cX3_would 13 = .ok (.invokestatic 39, 3) := by decide +kernel
theorem dX3_would_16 : decode cX3_would 16 = .ok (.ifCond .eq 25, 3) := by decide +kernel
theorem dX3_would_19 : decode cX3_would 19 = .ok (.iload_n 3, 1) := by decide +kernel
theorem dX3_would_20 : decode cX3_would 20 = .ok (.i2l, 1) := by decide +kernel
theorem dX3_would_21 : decode cX3_would 21 = .ok (.lconst 0, 1) := by decide +kernel
theorem dX3_would_22 : decode cX3_would 22 = .ok (.ldc2_w 159, 3) := by decide +kernel
theorem dX3_would_25 : decode cX3_would 25 = .ok (.invokestatic 39, 3) := by decide +kernel
theorem dX3_would_28 : decode cX3_would 28 = .ok (.ifCond .eq 13, 3) := by decide +kernel
theorem dX3_would_31 : decode cX3_would 31 = .ok (.aload_n 0, 1) := by decide +kernel
theorem dX3_would_32 : decode cX3_would 32 = .ok (.iload_n 1, 1) := by decide +kernel
theorem dX3_would_33 : decode cX3_would 33 = .ok (.iload_n 2, 1) := by decide +kernel
theorem dX3_would_34 : decode cX3_would 34 = .ok (.iload_n 3, 1) := by decide +kernel
theorem dX3_would_35 : decode cX3_would 35 = .ok (.invokevirtual 161, 3) := by decide +kernel
theorem dX3_would_38 : decode cX3_would 38 = .ok (.goto 5, 3) := by decide +kernel
theorem dX3_would_41 : decode cX3_would 41 = .ok (.bipush (-2), 2) := by decide +kernel
theorem dX3_would_43 : decode cX3_would 43 = .ok (.ireturn, 1) := by decide +kernel
theorem dX3_best_0 : decode cX3_best 0 = .ok (.iload_n 1, 1) := by decide +kernel
theorem dX3_best_1 : decode cX3_best 1 = .ok (.i2l, 1) := by decide +kernel
theorem dX3_best_2 : decode cX3_best 2 = .ok (.lconst 1, 1) := by decide +kernel
theorem dX3_best_3 : decode cX3_best 3 = .ok (.ldc2_w 130, 3) := by decide +kernel
theorem dX3_best_6 : decode cX3_best 6 = .ok (.invokestatic 39, 3) := by decide +kernel
theorem dX3_best_9 : decode cX3_best 9 = .ok (.ifCond .ne 6, 3) := by decide +kernel
theorem dX3_best_12 : decode cX3_best 12 = .ok (.bipush (-2), 2) := by decide +kernel
theorem dX3_best_14 : decode cX3_best 14 = .ok (.ireturn, 1) := by decide +kernel
theorem dX3_best_15 : decode cX3_best 15 = .ok (.bipush (-5), 2) := by decide +kernel
theorem dX3_best_17 : decode cX3_best 17 = .ok (.istore_n 2, 1) := by decide +kernel
theorem dX3_best_18 : decode cX3_best 18 = .ok (.iconst 0, 1) := by decide +kernel
theorem dX3_best_19 : decode cX3_best 19 = .ok (.istore_n 3, 1) := by decide +kernel
theorem dX3_best_20 : decode cX3_best 20 = .ok (.sipush 500, 3) := by decide +kernel
theorem dX3_best_23 : decode cX3_best 23 = .ok (.istore 4, 2) := by decide +kernel
theorem dX3_best_25 : decode cX3_best 25 = .ok (.iload 4, 2) := by decide +kernel
theorem dX3_best_27 : decode cX3_best 27 = .ok (.sipush 1200, 3) := by decide +kernel
theorem dX3_best_30 : decode cX3_best 30 = .ok (.if_icmp .gt 48, 3) := by decide +kernel
theorem dX3_best_33 : decode cX3_best 33 = .ok (.aload_n 0, 1) := by decide +kernel
theorem dX3_best_34 : decode cX3_best 34 = .ok (.iload 4, 2) := by decide +kernel
theorem dX3_best_36 : decode cX3_best 36 = .ok (.iload_n 1, 1) := by decide +kernel
theorem dX3_best_37 : decode cX3_best 37 = .ok (.iconst 2, 1) := by decide +kernel
theorem dX3_best_38 : decode cX3_best 38 = .ok (.invokevirtual 161, 3) := by decide +kernel
theorem dX3_best_41 : decode cX3_best 41 = .ok (.istore 5, 2) := by decide +kernel
theorem dX3_best_43 : decode cX3_best 43 = .ok (.aload_n 0, 1) := by decide +kernel
theorem dX3_best_44 : decode cX3_best 44 = .ok (.iload 4, 2) := by decide +kernel
theorem dX3_best_46 : decode cX3_best 46 = .ok (.iload_n 1, 1) := by decide +kernel
theorem dX3_best_47 : decode cX3_best 47 = .ok (.iconst 1, 1) := by decide +kernel
theorem dX3_best_48 : decode cX3_best 48 = .ok (.invokevirtual 161, 3) := by decide +kernel
theorem dX3_best_51 : decode cX3_best 51 = .ok (.ifCond .ne 21, 3) := by decide +kernel
theorem dX3_best_54 : decode cX3_best 54 = .ok (.iload_n 2, 1) := by decide +kernel
theorem dX3_best_55 : decode cX3_best 55 = .ok (.bipush (-5), 2) := by decide +kernel
theorem dX3_best_57 : decode cX3_best 57 = .ok (.if_icmp .eq 9, 3) := by decide +kernel
theorem dX3_best_60 : decode cX3_best 60 = .ok (.iload 5, 2) := by decide +kernel
theorem dX3_best_62 : decode cX3_best 62 = .ok (.iload_n 3, 1) := by decide +kernel
theorem dX3_best_63 : decode cX3_best 63 = .ok (.if_icmp .ge 9, 3) := by decide +kernel
theorem dX3_best_66 : decode cX3_best 66 = .ok (.iload 4, 2) := by decide +kernel
theorem dX3_best_68 : decode cX3_best 68 = .ok (.istore_n 2, 1) := by decide +kernel
theorem dX3_best_69 : decode cX3_best 69 = .ok (.iload 5, 2) := by decide +kernel
theorem dX3_best_71 : decode cX3_best 71 = .ok (.istore_n 3, 1) := by decide +kernel
theorem dX3_best_72 : decode cX3_best 72 = .ok (.iinc 4 50, 3) := by decide +kernel
theorem dX3_best_75 : decode cX3_best 75 = .ok (.goto (-50), 3) := by decide +kernel
theorem dX3_best_78 : decode cX3_best 78 = .ok (.iload_n 2, 1) := by decide +kernel
theorem dX3_best_79 : decode cX3_best 79 = .ok (.ireturn, 1) := by decide +kernel
theorem dX3_pathsThat_0 : decode cX3_pathsThat 0 = .ok (.iconst 0, 1) := by decide +kernel
theorem dX3_pathsThat_1 : decode cX3_pathsThat 1 = .ok (.istore_n 2, 1) := by decide +kernel
theorem dX3_pathsThat_2 : decode cX3_pathsThat 2 = .ok (.iconst 0, 1) := by decide +kernel
theorem dX3_pathsThat_3 : decode cX3_pathsThat 3 = .ok (.istore_n 3, 1) := by decide +kernel
theorem dX3_pathsThat_4 : decode cX3_pathsThat 4 = .ok (.iload_n 3, 1) := by decide +kernel
theorem dX3_pathsThat_5 : decode cX3_pathsThat 5 = .ok (.aload_n 0, 1) := by decide +kernel
theorem dX3_pathsThat_6 : decode cX3_pathsThat 6 = .ok (.getfield 7, 3) := by decide +kernel
theorem dX3_pathsThat_9 : decode cX3_pathsThat 9 = .ok (.bipush 51, 2) := by decide +kernel
theorem dX3_pathsThat_11 : decode cX3_pathsThat 11 = .ok (.iaload, 1) := by decide +kernel
theorem dX3_pathsThat_12 : decode cX3_pathsThat 12 = .ok (.if_icmp .ge 35, 3) := by decide +kernel
theorem dX3_pathsThat_15 : decode cX3_pathsThat 15 = .ok (.iload_n 2, 1) := by decide +kernel
theorem dX3_pathsThat_16 : decode cX3_pathsThat 16 = .ok (.aload_n 0, 1) := by decide +kernel
theorem dX3_pathsThat_17 : decode cX3_pathsThat 17 = .ok (.iload_n 3, 1) := by decide +kernel
theorem dX3_pathsThat_18 : decode cX3_pathsThat 18 = .ok (.aload_n 0, 1) := by decide +kernel
theorem dX3_pathsThat_19 : decode cX3_pathsThat 19 = .ok (.getfield 7, 3) := by decide +kernel
theorem dX3_pathsThat_22 : decode cX3_pathsThat 22 = .ok (.bipush 39, 2) := by decide +kernel
theorem dX3_pathsThat_24 : decode cX3_pathsThat 24 = .ok (.iaload, 1) := by decide +kernel
theorem dX3_pathsThat_25 : decode cX3_pathsThat 25 = .ok (.invokevirtual 51, 3) := by decide +kernel
theorem dX3_pathsThat_28 : decode cX3_pathsThat 28 = .ok (.iload_n 1, 1) := by decide +kernel
theorem dX3_pathsThat_29 : decode cX3_pathsThat 29 = .ok (.if_icmp .ne 9, 3) := by decide +kernel
theorem dX3_pathsThat_32 : decode cX3_pathsThat 32 = .ok (.iconst 1, 1) := by decide +kernel
theorem dX3_pathsThat_33 : decode cX3_pathsThat 33 = .ok (.iload_n 3, 1) := by decide +kernel
theorem dX3_pathsThat_34 : decode cX3_pathsThat 34 = .ok (.ishl, 1) := by decide +kernel
theorem dX3_pathsThat_35 : decode cX3_pathsThat 35 = .ok (.goto 4, 3) := by decide +kernel
theorem dX3_pathsThat_38 : decode cX3_pathsThat 38 = .ok (.iconst 0, 1) := by decide +kernel
theorem dX3_pathsThat_39 : decode cX3_pathsThat 39 = .ok (.ior, 1) := by decide +kernel
theorem dX3_pathsThat_40 : decode cX3_pathsThat 40 = .ok (.istore_n 2, 1) := by decide +kernel
theorem dX3_pathsThat_41 : decode cX3_pathsThat 41 = .ok (.iinc 3 1, 3) := by decide +kernel
theorem dX3_pathsThat_44 : decode cX3_pathsThat 44 = .ok (.goto (-40), 3) := by decide +kernel
theorem dX3_pathsThat_47 : decode cX3_pathsThat 47 = .ok (.iload_n 2, 1) := by decide +kernel
theorem dX3_pathsThat_48 : decode cX3_pathsThat 48 = .ok (.ireturn, 1) := by decide +kernel
theorem dX3_count_0 : decode cX3_count 0 = .ok (.iload_n 1, 1) := by decide +kernel
theorem dX3_count_1 : decode cX3_count 1 = .ok (.i2l, 1) := by decide +kernel
theorem dX3_count_2 : decode cX3_count 2 = .ok (.lconst 0, 1) := by decide +kernel
theorem dX3_count_3 : decode cX3_count 3 = .ok (.ldc2_w 164, 3) := by decide +kernel
theorem dX3_count_6 : decode cX3_count 6 = .ok (.invokestatic 39, 3) := by decide +kernel
theorem dX3_count_9 : decode cX3_count 9 = .ok (.ifCond .eq 13, 3) := by decide +kernel
theorem dX3_count_12 : decode cX3_count 12 = .ok (.aload_n 0, 1) := by decide +kernel
theorem dX3_count_13 : decode cX3_count 13 = .ok (.getfield 7, 3) := by decide +kernel
theorem dX3_count_16 : decode cX3_count 16 = .ok (.bipush 39, 2) := by decide +kernel
theorem dX3_count_18 : decode cX3_count 18 = .ok (.iload_n 1, 1) := by decide +kernel
theorem dX3_count_19 : decode cX3_count 19 = .ok (.iadd, 1) := by decide +kernel
theorem dX3_count_20 : decode cX3_count 20 = .ok (.iaload, 1) := by decide +kernel
theorem dX3_count_21 : decode cX3_count 21 = .ok (.ireturn, 1) := by decide +kernel
theorem dX3_count_22 : decode cX3_count 22 = .ok (.iload_n 1, 1) := by decide +kernel
theorem dX3_count_23 : decode cX3_count 23 = .ok (.i2l, 1) := by decide +kernel
theorem dX3_count_24 : decode cX3_count 24 = .ok (.ldc2_w 166, 3) := by decide +kernel
theorem dX3_count_27 : decode cX3_count 27 = .ok (.ldc2_w 168, 3) := by decide +kernel
theorem dX3_count_30 : decode cX3_count 30 = .ok (.invokestatic 39, 3) := by decide +kernel
theorem dX3_count_33 : decode cX3_count 33 = .ok (.ifCond .eq 16, 3) := by decide +kernel
theorem dX3_count_36 : decode cX3_count 36 = .ok (.aload_n 0, 1) := by decide +kernel
theorem dX3_count_37 : decode cX3_count 37 = .ok (.getfield 7, 3) := by decide +kernel
theorem dX3_count_40 : decode cX3_count 40 = .ok (.bipush 32, 2) := by decide +kernel
theorem dX3_count_42 : decode cX3_count 42 = .ok (.iload_n 1, 1) := by decide +kernel
theorem dX3_count_43 : decode cX3_count 43 = .ok (.iadd, 1) := by decide +kernel
theorem dX3_count_44 : decode cX3_count 44 = .ok (.bipush 17, 2) := by decide +kernel
theorem dX3_count_46 : decode cX3_count 46 = .ok (.isub, 1) := by decide +kernel
theorem dX3_count_47 : decode cX3_count 47 = .ok (.iaload, 1) := by decide +kernel
theorem dX3_count_48 : decode cX3_count 48 = .ok (.ireturn, 1) := by decide +kernel
theorem dX3_count_49 : decode cX3_count 49 = .ok (.iload_n 1, 1) := by decide +kernel
theorem dX3_count_50 : decode cX3_count 50 = .ok (.tableswitch 101 13 25 #[66, 66, 75, 83, 101, 101, 101, 101, 101, 101, 101, 91, 96], 66) := by decide +kernel
theorem dX3_count_116 : decode cX3_count 116 = .ok (.aload_n 0, 1) := by decide +kernel
theorem dX3_count_117 : decode cX3_count 117 = .ok (.iload_n 1, 1) := by decide +kernel
theorem dX3_count_118 : decode cX3_count 118 = .ok (.bipush 12, 2) := by decide +kernel
theorem dX3_count_120 : decode cX3_count 120 = .ok (.isub, 1) := by decide +kernel
theorem dX3_count_121 : decode cX3_count 121 = .ok (.invokevirtual 170, 3) := by decide +kernel
theorem dX3_count_124 : decode cX3_count 124 = .ok (.ireturn, 1) := by decide +kernel
theorem dX3_count_125 : decode cX3_count 125 = .ok (.aload_n 0, 1) := by decide +kernel
theorem dX3_count_126 : decode cX3_count 126 = .ok (.getfield 7, 3) := by decide +kernel
theorem dX3_count_129 : decode cX3_count 129 = .ok (.bipush 52, 2) := by decide +kernel
theorem dX3_count_131 : decode cX3_count 131 = .ok (.iaload, 1) := by decide +kernel
theorem dX3_count_132 : decode cX3_count 132 = .ok (.ireturn, 1) := by decide +kernel
theorem dX3_count_133 : decode cX3_count 133 = .ok (.aload_n 0, 1) := by decide +kernel
theorem dX3_count_134 : decode cX3_count 134 = .ok (.getfield 7, 3) := by decide +kernel
theorem dX3_count_137 : decode cX3_count 137 = .ok (.bipush 53, 2) := by decide +kernel
theorem dX3_count_139 : decode cX3_count 139 = .ok (.iaload, 1) := by decide +kernel
theorem dX3_count_140 : decode cX3_count 140 = .ok (.ireturn, 1) := by decide +kernel
theorem dX3_count_141 : decode cX3_count 141 = .ok (.aload_n 0, 1) := by decide +kernel
theorem dX3_count_142 : decode cX3_count 142 = .ok (.getfield 35, 3) := by decide +kernel
theorem dX3_count_145 : decode cX3_count 145 = .ok (.ireturn, 1) := by decide +kernel
theorem dX3_count_146 : decode cX3_count 146 = .ok (.aload_n 0, 1) := by decide +kernel
theorem dX3_count_147 : decode cX3_count 147 = .ok (.getfield 96, 3) := by decide +kernel
theorem dX3_count_150 : decode cX3_count 150 = .ok (.ireturn, 1) := by decide +kernel
theorem dX3_count_151 : decode cX3_count 151 = .ok (.bipush (-2), 2) := by decide +kernel
theorem dX3_count_153 : decode cX3_count 153 = .ok (.ireturn, 1) := by decide +kernel
theorem dJ6_bitCount_0f7a4_0 : decode cJ6_bitCount_0f7a4 0 = .ok (.iload_n 0, 1) := by decide +kernel
theorem dJ6_bitCount_0f7a4_1 : decode cJ6_bitCount_0f7a4 1 = .ok (.iload_n 0, 1) := by decide +kernel
theorem dJ6_bitCount_0f7a4_2 : decode cJ6_bitCount_0f7a4 2 = .ok (.iconst 1, 1) := by decide +kernel
theorem dJ6_bitCount_0f7a4_3 : decode cJ6_bitCount_0f7a4 3 = .ok (.iushr, 1) := by decide +kernel
theorem dJ6_bitCount_0f7a4_4 : decode cJ6_bitCount_0f7a4 4 = .ok (.ldc_w 265, 3) := by decide +kernel
theorem dJ6_bitCount_0f7a4_7 : decode cJ6_bitCount_0f7a4 7 = .ok (.iand, 1) := by decide +kernel
theorem dJ6_bitCount_0f7a4_8 : decode cJ6_bitCount_0f7a4 8 = .ok (.isub, 1) := by decide +kernel
theorem dJ6_bitCount_0f7a4_9 : decode cJ6_bitCount_0f7a4 9 = .ok (.istore_n 0, 1) := by decide +kernel
theorem dJ6_bitCount_0f7a4_10 : decode cJ6_bitCount_0f7a4 10 = .ok (.iload_n 0, 1) := by decide +kernel
theorem dJ6_bitCount_0f7a4_11 : decode cJ6_bitCount_0f7a4 11 = .ok (.ldc_w 266, 3) := by decide +kernel
theorem dJ6_bitCount_0f7a4_14 : decode cJ6_bitCount_0f7a4 14 = .ok (.iand, 1) := by decide +kernel
theorem dJ6_bitCount_0f7a4_15 : decode cJ6_bitCount_0f7a4 15 = .ok (.iload_n 0, 1) := by decide +kernel
theorem dJ6_bitCount_0f7a4_16 : decode cJ6_bitCount_0f7a4 16 = .ok (.iconst 2, 1) := by decide +kernel
theorem dJ6_bitCount_0f7a4_17 : decode cJ6_bitCount_0f7a4 17 = .ok (.iushr, 1) := by decide +kernel
theorem dJ6_bitCount_0f7a4_18 : decode cJ6_bitCount_0f7a4 18 = .ok (.ldc_w 266, 3) := by decide +kernel
theorem dJ6_bitCount_0f7a4_21 : decode cJ6_bitCount_0f7a4 21 = .ok (.iand, 1) := by decide +kernel
theorem dJ6_bitCount_0f7a4_22 : decode cJ6_bitCount_0f7a4 22 = .ok (.iadd, 1) := by decide +kernel
theorem dJ6_bitCount_0f7a4_23 : decode cJ6_bitCount_0f7a4 23 = .ok (.istore_n 0, 1) := by decide +kernel
theorem dJ6_bitCount_0f7a4_24 : decode cJ6_bitCount_0f7a4 24 = .ok (.iload_n 0, 1) := by decide +kernel
theorem dJ6_bitCount_0f7a4_25 : decode cJ6_bitCount_0f7a4 25 = .ok (.iload_n 0, 1) := by decide +kernel
theorem dJ6_bitCount_0f7a4_26 : decode cJ6_bitCount_0f7a4 26 = .ok (.iconst 4, 1) := by decide +kernel
theorem dJ6_bitCount_0f7a4_27 : decode cJ6_bitCount_0f7a4 27 = .ok (.iushr, 1) := by decide +kernel
theorem dJ6_bitCount_0f7a4_28 : decode cJ6_bitCount_0f7a4 28 = .ok (.iadd, 1) := by decide +kernel
theorem dJ6_bitCount_0f7a4_29 : decode cJ6_bitCount_0f7a4 29 = .ok (.ldc_w 267, 3) := by decide +kernel
theorem dJ6_bitCount_0f7a4_32 : decode cJ6_bitCount_0f7a4 32 = .ok (.iand, 1) := by decide +kernel
theorem dJ6_bitCount_0f7a4_33 : decode cJ6_bitCount_0f7a4 33 = .ok (.istore_n 0, 1) := by decide +kernel
theorem dJ6_bitCount_0f7a4_34 : decode cJ6_bitCount_0f7a4 34 = .ok (.iload_n 0, 1) := by decide +kernel
theorem dJ6_bitCount_0f7a4_35 : decode cJ6_bitCount_0f7a4 35 = .ok (.iload_n 0, 1) := by decide +kernel
theorem dJ6_bitCount_0f7a4_36 : decode cJ6_bitCount_0f7a4 36 = .ok (.bipush 8, 2) := by decide +kernel
theorem dJ6_bitCount_0f7a4_38 : decode cJ6_bitCount_0f7a4 38 = .ok (.iushr, 1) := by decide +kernel
theorem dJ6_bitCount_0f7a4_39 : decode cJ6_bitCount_0f7a4 39 = .ok (.iadd, 1) := by decide +kernel
theorem dJ6_bitCount_0f7a4_40 : decode cJ6_bitCount_0f7a4 40 = .ok (.istore_n 0, 1) := by decide +kernel
theorem dJ6_bitCount_0f7a4_41 : decode cJ6_bitCount_0f7a4 41 = .ok (.iload_n 0, 1) := by decide +kernel
theorem dJ6_bitCount_0f7a4_42 : decode cJ6_bitCount_0f7a4 42 = .ok (.iload_n 0, 1) := by decide +kernel
theorem dJ6_bitCount_0f7a4_43 : decode cJ6_bitCount_0f7a4 43 = .ok (.bipush 16, 2) := by decide +kernel
theorem dJ6_bitCount_0f7a4_45 : decode cJ6_bitCount_0f7a4 45 = .ok (.iushr, 1) := by decide +kernel
theorem dJ6_bitCount_0f7a4_46 : decode cJ6_bitCount_0f7a4 46 = .ok (.iadd, 1) := by decide +kernel
theorem dJ6_bitCount_0f7a4_47 : decode cJ6_bitCount_0f7a4 47 = .ok (.istore_n 0, 1) := by decide +kernel
theorem dJ6_bitCount_0f7a4_48 : decode cJ6_bitCount_0f7a4 48 = .ok (.iload_n 0, 1) := by decide +kernel
theorem dJ6_bitCount_0f7a4_49 : decode cJ6_bitCount_0f7a4 49 = .ok (.bipush 63, 2) := by decide +kernel
theorem dJ6_bitCount_0f7a4_51 : decode cJ6_bitCount_0f7a4 51 = .ok (.iand, 1) := by decide +kernel
theorem dJ6_bitCount_0f7a4_52 : decode cJ6_bitCount_0f7a4 52 = .ok (.ireturn, 1) := by decide +kernel
theorem dJ9_max_7cf53_0 : decode cJ9_max_7cf53 0 = .ok (.iload_n 0, 1) := by decide +kernel
theorem dJ9_max_7cf53_1 : decode cJ9_max_7cf53 1 = .ok (.iload_n 1, 1) := by decide +kernel
theorem dJ9_max_7cf53_2 : decode cJ9_max_7cf53 2 = .ok (.if_icmp .lt 7, 3) := by decide +kernel
theorem dJ9_max_7cf53_5 : decode cJ9_max_7cf53 5 = .ok (.iload_n 0, 1) := by decide +kernel
theorem dJ9_max_7cf53_6 : decode cJ9_max_7cf53 6 = .ok (.goto 4, 3) := by decide +kernel
theorem dJ9_max_7cf53_9 : decode cJ9_max_7cf53 9 = .ok (.iload_n 1, 1) := by decide +kernel
theorem dJ9_max_7cf53_10 : decode cJ9_max_7cf53 10 = .ok (.ireturn, 1) := by decide +kernel
theorem dJ9_min_7cf53_0 : decode cJ9_min_7cf53 0 = .ok (.iload_n 0, 1) := by decide +kernel
theorem dJ9_min_7cf53_1 : decode cJ9_min_7cf53 1 = .ok (.iload_n 1, 1) := by decide +kernel
theorem dJ9_min_7cf53_2 : decode cJ9_min_7cf53 2 = .ok (.if_icmp .gt 7, 3) := by decide +kernel
theorem dJ9_min_7cf53_5 : decode cJ9_min_7cf53 5 = .ok (.iload_n 0, 1) := by decide +kernel
theorem dJ9_min_7cf53_6 : decode cJ9_min_7cf53 6 = .ok (.goto 4, 3) := by decide +kernel
theorem dJ9_min_7cf53_9 : decode cJ9_min_7cf53 9 = .ok (.iload_n 1, 1) := by decide +kernel
theorem dJ9_min_7cf53_10 : decode cJ9_min_7cf53 10 = .ok (.ireturn, 1) := by decide +kernel
theorem dL_law_0 : decode cL_law 0 = .ok (.new 7, 3) := by decide +kernel
theorem dL_law_3 : decode cL_law 3 = .ok (.dup, 1) := by decide +kernel
theorem dL_law_4 : decode cL_law 4 = .ok (.invokespecial 9, 3) := by decide +kernel
theorem dL_law_7 : decode cL_law 7 = .ok (.astore_n 1, 1) := by decide +kernel
theorem dL_law_8 : decode cL_law 8 = .ok (.new 10, 3) := by decide +kernel
theorem dL_law_11 : decode cL_law 11 = .ok (.dup, 1) := by decide +kernel
theorem dL_law_12 : decode cL_law 12 = .ok (.invokespecial 12, 3) := by decide +kernel
theorem dL_law_15 : decode cL_law 15 = .ok (.astore_n 2, 1) := by decide +kernel
theorem dL_law_16 : decode cL_law 16 = .ok (.iconst 0, 1) := by decide +kernel
theorem dL_law_17 : decode cL_law 17 = .ok (.istore_n 3, 1) := by decide +kernel
theorem dL_law_18 : decode cL_law 18 = .ok (.iload_n 3, 1) := by decide +kernel
theorem dL_law_19 : decode cL_law 19 = .ok (.aload_n 0, 1) := by decide +kernel
theorem dL_law_20 : decode cL_law 20 = .ok (.arraylength, 1) := by decide +kernel
theorem dL_law_21 : decode cL_law 21 = .ok (.iconst 4, 1) := by decide +kernel
theorem dL_law_22 : decode cL_law 22 = .ok (.isub, 1) := by decide +kernel
theorem dL_law_23 : decode cL_law 23 = .ok (.if_icmp .gt 635, 3) := by decide +kernel
theorem dL_law_26 : decode cL_law 26 = .ok (.aload_n 0, 1) := by decide +kernel
theorem dL_law_27 : decode cL_law 27 = .ok (.iload_n 3, 1) := by decide +kernel
theorem dL_law_28 : decode cL_law 28 = .ok (.iaload, 1) := by decide +kernel
theorem dL_law_29 : decode cL_law 29 = .ok (.bipush 31, 2) := by decide +kernel
theorem dL_law_31 : decode cL_law 31 = .ok (.iand, 1) := by decide +kernel
theorem dL_law_32 : decode cL_law 32 = .ok (.tableswitch 620 0 19 #[96, 119, 152, 165, 198, 221, 260, 293, 316, 341, 354, 367, 380, 393, 426, 469, 492, 531, 574, 597], 96) := by decide +kernel
theorem dL_law_128 : decode cL_law 128 = .ok (.aload_n 1, 1) := by decide +kernel
theorem dL_law_129 : decode cL_law 129 = .ok (.aload_n 0, 1) := by decide +kernel
theorem dL_law_130 : decode cL_law 130 = .ok (.iload_n 3, 1) := by decide +kernel
theorem dL_law_131 : decode cL_law 131 = .ok (.iconst 1, 1) := by decide +kernel
theorem dL_law_132 : decode cL_law 132 = .ok (.iadd, 1) := by decide +kernel
theorem dL_law_133 : decode cL_law 133 = .ok (.iaload, 1) := by decide +kernel
theorem dL_law_134 : decode cL_law 134 = .ok (.invokevirtual 13, 3) := by decide +kernel
theorem dL_law_137 : decode cL_law 137 = .ok (.aload_n 2, 1) := by decide +kernel
theorem dL_law_138 : decode cL_law 138 = .ok (.aload_n 0, 1) := by decide +kernel
theorem dL_law_139 : decode cL_law 139 = .ok (.iload_n 3, 1) := by decide +kernel
theorem dL_law_140 : decode cL_law 140 = .ok (.iconst 1, 1) := by decide +kernel
theorem dL_law_141 : decode cL_law 141 = .ok (.iadd, 1) := by decide +kernel
theorem dL_law_142 : decode cL_law 142 = .ok (.iaload, 1) := by decide +kernel
theorem dL_law_143 : decode cL_law 143 = .ok (.invokevirtual 17, 3) := by decide +kernel
theorem dL_law_146 : decode cL_law 146 = .ok (.if_icmp .eq 506, 3) := by decide +kernel
theorem dL_law_149 : decode cL_law 149 = .ok (.iconst 0, 1) := by decide +kernel
theorem dL_law_150 : decode cL_law 150 = .ok (.ireturn, 1) := by decide +kernel
theorem dL_law_151 : decode cL_law 151 = .ok (.aload_n 1, 1) := by decide +kernel
theorem dL_law_152 : decode cL_law 152 = .ok (.aload_n 0, 1) := by decide +kernel
theorem dL_law_153 : decode cL_law 153 = .ok (.iload_n 3, 1) := by decide +kernel
theorem dL_law_154 : decode cL_law 154 = .ok (.iconst 1, 1) := by decide +kernel
theorem dL_law_155 : decode cL_law 155 = .ok (.iadd, 1) := by decide +kernel
theorem dL_law_156 : decode cL_law 156 = .ok (.iaload, 1) := by decide +kernel
theorem dL_law_157 : decode cL_law 157 = .ok (.aload_n 0, 1) := by decide +kernel
theorem dL_law_158 : decode cL_law 158 = .ok (.iload_n 3, 1) := by decide +kernel
theorem dL_law_159 : decode cL_law 159 = .ok (.iconst 2, 1) := by decide +kernel
theorem dL_law_160 : decode cL_law 160 = .ok (.iadd, 1) := by decide +kernel
theorem dL_law_161 : decode cL_law 161 = .ok (.iaload, 1) := by decide +kernel
theorem dL_law_162 : decode cL_law 162 = .ok (.invokevirtual 18, 3) := by decide +kernel
theorem dL_law_165 : decode cL_law 165 = .ok (.aload_n 2, 1) := by decide +kernel
theorem dL_law_166 : decode cL_law 166 = .ok (.aload_n 0, 1) := by decide +kernel
theorem dL_law_167 : decode cL_law 167 = .ok (.iload_n 3, 1) := by decide +kernel
theorem dL_law_168 : decode cL_law 168 = .ok (.iconst 1, 1) := by decide +kernel
theorem dL_law_169 : decode cL_law 169 = .ok (.iadd, 1) := by decide +kernel
theorem dL_law_170 : decode cL_law 170 = .ok (.iaload, 1) := by decide +kernel
theorem dL_law_171 : decode cL_law 171 = .ok (.aload_n 0, 1) := by decide +kernel
theorem dL_law_172 : decode cL_law 172 = .ok (.iload_n 3, 1) := by decide +kernel
theorem dL_law_173 : decode cL_law 173 = .ok (.iconst 2, 1) := by decide +kernel
theorem dL_law_174 : decode cL_law 174 = .ok (.iadd, 1) := by decide +kernel
theorem dL_law_175 : decode cL_law 175 = .ok (.iaload, 1) := by decide +kernel
theorem dL_law_176 : decode cL_law 176 = .ok (.invokevirtual 22, 3) := by decide +kernel
theorem dL_law_179 : decode cL_law 179 = .ok (.if_icmp .eq 473, 3) := by decide +kernel
theorem dL_law_182 : decode cL_law 182 = .ok (.iconst 0, 1) := by decide +kernel
theorem dL_law_183 : decode cL_law 183 = .ok (.ireturn, 1) := by decide +kernel
theorem dL_law_184 : decode cL_law 184 = .ok (.aload_n 1, 1) := by decide +kernel
theorem dL_law_185 : decode cL_law 185 = .ok (.invokevirtual 23, 3) := by decide +kernel
theorem dL_law_188 : decode cL_law 188 = .ok (.aload_n 2, 1) := by decide +kernel
theorem dL_law_189 : decode cL_law 189 = .ok (.invokevirtual 27, 3) := by decide +kernel
theorem dL_law_192 : decode cL_law 192 = .ok (.if_icmp .eq 460, 3) := by decide +kernel
theorem dL_law_195 : decode cL_law 195 = .ok (.iconst 0, 1) := by decide +kernel
theorem dL_law_196 : decode cL_law 196 = .ok (.ireturn, 1) := by decide +kernel
theorem dL_law_197 : decode cL_law 197 = .ok (.aload_n 1, 1) := by decide +kernel
theorem dL_law_198 : decode cL_law 198 = .ok (.aload_n 0, 1) := by decide +kernel
theorem dL_law_199 : decode cL_law 199 = .ok (.iload_n 3, 1) := by decide +kernel
theorem dL_law_200 : decode cL_law 200 = .ok (.iconst 1, 1) := by decide +kernel
theorem dL_law_201 : decode cL_law 201 = .ok (.iadd, 1) := by decide +kernel
theorem dL_law_202 : decode cL_law 202 = .ok (.iaload, 1) := by decide +kernel
theorem dL_law_203 : decode cL_law 203 = .ok (.aload_n 0, 1) := by decide +kernel
theorem dL_law_204 : decode cL_law 204 = .ok (.iload_n 3, 1) := by decide +kernel
theorem dL_law_205 : decode cL_law 205 = .ok (.iconst 2, 1) := by decide +kernel
theorem dL_law_206 : decode cL_law 206 = .ok (.iadd, 1) := by decide +kernel
theorem dL_law_207 : decode cL_law 207 = .ok (.iaload, 1) := by decide +kernel
theorem dL_law_208 : decode cL_law 208 = .ok (.invokevirtual 28, 3) := by decide +kernel
theorem dL_law_211 : decode cL_law 211 = .ok (.aload_n 2, 1) := by decide +kernel
theorem dL_law_212 : decode cL_law 212 = .ok (.aload_n 0, 1) := by decide +kernel
theorem dL_law_213 : decode cL_law 213 = .ok (.iload_n 3, 1) := by decide +kernel
theorem dL_law_214 : decode cL_law 214 = .ok (.iconst 1, 1) := by decide +kernel
theorem dL_law_215 : decode cL_law 215 = .ok (.iadd, 1) := by decide +kernel
theorem dL_law_216 : decode cL_law 216 = .ok (.iaload, 1) := by decide +kernel
theorem dL_law_217 : decode cL_law 217 = .ok (.aload_n 0, 1) := by decide +kernel
theorem dL_law_218 : decode cL_law 218 = .ok (.iload_n 3, 1) := by decide +kernel
theorem dL_law_219 : decode cL_law 219 = .ok (.iconst 2, 1) := by decide +kernel
theorem dL_law_220 : decode cL_law 220 = .ok (.iadd, 1) := by decide +kernel
theorem dL_law_221 : decode cL_law 221 = .ok (.iaload, 1) := by decide +kernel
theorem dL_law_222 : decode cL_law 222 = .ok (.invokevirtual 31, 3) := by decide +kernel
theorem dL_law_225 : decode cL_law 225 = .ok (.if_icmp .eq 427, 3) := by decide +kernel
theorem dL_law_228 : decode cL_law 228 = .ok (.iconst 0, 1) := by decide +kernel
theorem dL_law_229 : decode cL_law 229 = .ok (.ireturn, 1) := by decide +kernel
theorem dL_law_230 : decode cL_law 230 = .ok (.aload_n 1, 1) := by decide +kernel
theorem dL_law_231 : decode cL_law 231 = .ok (.aload_n 0, 1) := by decide +kernel
theorem dL_law_232 : decode cL_law 232 = .ok (.iload_n 3, 1) := by decide +kernel
theorem dL_law_233 : decode cL_law 233 = .ok (.iconst 1, 1) := by decide +kernel
theorem dL_law_234 : decode cL_law 234 = .ok (.iadd, 1) := by decide +kernel
theorem dL_law_235 : decode cL_law 235 = .ok (.iaload, 1) := by decide +kernel
theorem dL_law_236 : decode cL_law 236 = .ok (.invokevirtual 32, 3) := by decide +kernel
theorem dL_law_239 : decode cL_law 239 = .ok (.aload_n 2, 1) := by decide +kernel
theorem dL_law_240 : decode cL_law 240 = .ok (.aload_n 0, 1) := by decide +kernel
theorem dL_law_241 : decode cL_law 241 = .ok (.iload_n 3, 1) := by decide +kernel
theorem dL_law_242 : decode cL_law 242 = .ok (.iconst 1, 1) := by decide +kernel
theorem dL_law_243 : decode cL_law 243 = .ok (.iadd, 1) := by decide +kernel
theorem dL_law_244 : decode cL_law 244 = .ok (.iaload, 1) := by decide +kernel
theorem dL_law_245 : decode cL_law 245 = .ok (.invokevirtual 35, 3) := by decide +kernel
theorem dL_law_248 : decode cL_law 248 = .ok (.if_icmp .eq 404, 3) := by decide +kernel
theorem dL_law_251 : decode cL_law 251 = .ok (.iconst 0, 1) := by decide +kernel
theorem dL_law_252 : decode cL_law 252 = .ok (.ireturn, 1) := by decide +kernel
theorem dL_law_253 : decode cL_law 253 = .ok (.aload_n 1, 1) := by decide +kernel
theorem dL_law_254 : decode cL_law 254 = .ok (.aload_n 0, 1) := by decide +kernel
theorem dL_law_255 : decode cL_law 255 = .ok (.iload_n 3, 1) := by decide +kernel
theorem dL_law_256 : decode cL_law 256 = .ok (.iconst 1, 1) := by decide +kernel
theorem dL_law_257 : decode cL_law 257 = .ok (.iadd, 1) := by decide +kernel
theorem dL_law_258 : decode cL_law 258 = .ok (.iaload, 1) := by decide +kernel
theorem dL_law_259 : decode cL_law 259 = .ok (.ifCond .eq 7, 3) := by decide +kernel
theorem dL_law_262 : decode cL_law 262 = .ok (.iconst 1, 1) := by decide +kernel
theorem dL_law_263 : decode cL_law 263 = .ok (.goto 4, 3) := by decide +kernel
theorem dL_law_266 : decode cL_law 266 = .ok (.iconst 0, 1) := by decide +kernel
theorem dL_law_267 : decode cL_law 267 = .ok (.invokevirtual 36, 3) := by decide +kernel
theorem dL_law_270 : decode cL_law 270 = .ok (.aload_n 2, 1) := by decide +kernel
theorem dL_law_271 : decode cL_law 271 = .ok (.aload_n 0, 1) := by decide +kernel
theorem dL_law_272 : decode cL_law 272 = .ok (.iload_n 3, 1) := by decide +kernel
theorem dL_law_273 : decode cL_law 273 = .ok (.iconst 1, 1) := by decide +kernel
theorem dL_law_274 : decode cL_law 274 = .ok (.iadd, 1) := by decide +kernel
theorem dL_law_275 : decode cL_law 275 = .ok (.iaload, 1) := by decide +kernel
theorem dL_law_276 : decode cL_law 276 = .ok (.ifCond .eq 7, 3) := by decide +kernel
theorem dL_law_279 : decode cL_law 279 = .ok (.iconst 1, 1) := by decide +kernel
theorem dL_law_280 : decode cL_law 280 = .ok (.goto 4, 3) := by decide +kernel
theorem dL_law_283 : decode cL_law 283 = .ok (.iconst 0, 1) := by decide +kernel
theorem dL_law_284 : decode cL_law 284 = .ok (.invokevirtual 40, 3) := by decide +kernel
theorem dL_law_287 : decode cL_law 287 = .ok (.if_icmp .eq 365, 3) := by decide +kernel
theorem dL_law_290 : decode cL_law 290 = .ok (.iconst 0, 1) := by decide +kernel
theorem dL_law_291 : decode cL_law 291 = .ok (.ireturn, 1) := by decide +kernel
theorem dL_law_292 : decode cL_law 292 = .ok (.aload_n 1, 1) := by decide +kernel
theorem dL_law_293 : decode cL_law 293 = .ok (.aload_n 0, 1) := by decide +kernel
theorem dL_law_294 : decode cL_law 294 = .ok (.iload_n 3, 1) := by decide +kernel
theorem dL_law_295 : decode cL_law 295 = .ok (.iconst 1, 1) := by decide +kernel
theorem dL_law_296 : decode cL_law 296 = .ok (.iadd, 1) := by decide +kernel
theorem dL_law_297 : decode cL_law 297 = .ok (.iaload, 1) := by decide +kernel
theorem dL_law_298 : decode cL_law 298 = .ok (.aload_n 0, 1) := by decide +kernel
theorem dL_law_299 : decode cL_law 299 = .ok (.iload_n 3, 1) := by decide +kernel
theorem dL_law_300 : decode cL_law 300 = .ok (.iconst 2, 1) := by decide +kernel
theorem dL_law_301 : decode cL_law 301 = .ok (.iadd, 1) := by decide +kernel
theorem dL_law_302 : decode cL_law 302 = .ok (.iaload, 1) := by decide +kernel
theorem dL_law_303 : decode cL_law 303 = .ok (.invokevirtual 41, 3) := by decide +kernel
theorem dL_law_306 : decode cL_law 306 = .ok (.aload_n 2, 1) := by decide +kernel
theorem dL_law_307 : decode cL_law 307 = .ok (.aload_n 0, 1) := by decide +kernel
theorem dL_law_308 : decode cL_law 308 = .ok (.iload_n 3, 1) := by decide +kernel
theorem dL_law_309 : decode cL_law 309 = .ok (.iconst 1, 1) := by decide +kernel
theorem dL_law_310 : decode cL_law 310 = .ok (.iadd, 1) := by decide +kernel
theorem dL_law_311 : decode cL_law 311 = .ok (.iaload, 1) := by decide +kernel
theorem dL_law_312 : decode cL_law 312 = .ok (.aload_n 0, 1) := by decide +kernel
theorem dL_law_313 : decode cL_law 313 = .ok (.iload_n 3, 1) := by decide +kernel
theorem dL_law_314 : decode cL_law 314 = .ok (.iconst 2, 1) := by decide +kernel
theorem dL_law_315 : decode cL_law 315 = .ok (.iadd, 1) := by decide +kernel
theorem dL_law_316 : decode cL_law 316 = .ok (.iaload, 1) := by decide +kernel
theorem dL_law_317 : decode cL_law 317 = .ok (.invokevirtual 44, 3) := by decide +kernel
theorem dL_law_320 : decode cL_law 320 = .ok (.if_icmp .eq 332, 3) := by decide +kernel
theorem dL_law_323 : decode cL_law 323 = .ok (.iconst 0, 1) := by decide +kernel
theorem dL_law_324 : decode cL_law 324 = .ok (.ireturn, 1) := by decide +kernel
theorem dL_law_325 : decode cL_law 325 = .ok (.aload_n 1, 1) := by decide +kernel
theorem dL_law_326 : decode cL_law 326 = .ok (.aload_n 0, 1) := by decide +kernel
theorem dL_law_327 : decode cL_law 327 = .ok (.iload_n 3, 1) := by decide +kernel
theorem dL_law_328 : decode cL_law 328 = .ok (.iconst 1, 1) := by decide +kernel
theorem dL_law_329 : decode cL_law 329 = .ok (.iadd, 1) := by decide +kernel
theorem dL_law_330 : decode cL_law 330 = .ok (.iaload, 1) := by decide +kernel
theorem dL_law_331 : decode cL_law 331 = .ok (.invokevirtual 45, 3) := by decide +kernel
theorem dL_law_334 : decode cL_law 334 = .ok (.aload_n 2, 1) := by decide +kernel
theorem dL_law_335 : decode cL_law 335 = .ok (.aload_n 0, 1) := by decide +kernel
theorem dL_law_336 : decode cL_law 336 = .ok (.iload_n 3, 1) := by decide +kernel
theorem dL_law_337 : decode cL_law 337 = .ok (.iconst 1, 1) := by decide +kernel
theorem dL_law_338 : decode cL_law 338 = .ok (.iadd, 1) := by decide +kernel
theorem dL_law_339 : decode cL_law 339 = .ok (.iaload, 1) := by decide +kernel
theorem dL_law_340 : decode cL_law 340 = .ok (.invokevirtual 48, 3) := by decide +kernel
theorem dL_law_343 : decode cL_law 343 = .ok (.if_icmp .eq 309, 3) := by decide +kernel
theorem dL_law_346 : decode cL_law 346 = .ok (.iconst 0, 1) := by decide +kernel
theorem dL_law_347 : decode cL_law 347 = .ok (.ireturn, 1) := by decide +kernel
theorem dL_law_348 : decode cL_law 348 = .ok (.aload_n 1, 1) := by decide +kernel
theorem dL_law_349 : decode cL_law 349 = .ok (.aload_n 0, 1) := by decide +kernel
theorem dL_law_350 : decode cL_law 350 = .ok (.iload_n 3, 1) := by decide +kernel
theorem dL_law_351 : decode cL_law 351 = .ok (.iconst 1, 1) := by decide +kernel
theorem dL_law_352 : decode cL_law 352 = .ok (.iadd, 1) := by decide +kernel
theorem dL_law_353 : decode cL_law 353 = .ok (.iaload, 1) := by decide +kernel
theorem dL_law_354 : decode cL_law 354 = .ok (.i2c, 1) := by decide +kernel
theorem dL_law_355 : decode cL_law 355 = .ok (.invokevirtual 49, 3) := by decide +kernel
theorem dL_law_358 : decode cL_law 358 = .ok (.aload_n 2, 1) := by decide +kernel
theorem dL_law_359 : decode cL_law 359 = .ok (.aload_n 0, 1) := by decide +kernel
theorem dL_law_360 : decode cL_law 360 = .ok (.iload_n 3, 1) := by decide +kernel
theorem dL_law_361 : decode cL_law 361 = .ok (.iconst 1, 1) := by decide +kernel
theorem dL_law_362 : decode cL_law 362 = .ok (.iadd, 1) := by decide +kernel
theorem dL_law_363 : decode cL_law 363 = .ok (.iaload, 1) := by decide +kernel
theorem dL_law_364 : decode cL_law 364 = .ok (.i2c, 1) := by decide +kernel
theorem dL_law_365 : decode cL_law 365 = .ok (.invokevirtual 53, 3) := by decide +kernel
theorem dL_law_368 : decode cL_law 368 = .ok (.if_icmp .eq 284, 3) := by decide +kernel
theorem dL_law_371 : decode cL_law 371 = .ok (.iconst 0, 1) := by decide +kernel
theorem dL_law_372 : decode cL_law 372 = .ok (.ireturn, 1) := by decide +kernel
theorem dL_law_373 : decode cL_law 373 = .ok (.aload_n 1, 1) := by decide +kernel
theorem dL_law_374 : decode cL_law 374 = .ok (.invokevirtual 54, 3) := by decide +kernel
theorem dL_law_377 : decode cL_law 377 = .ok (.aload_n 2, 1) := by decide +kernel
theorem dL_law_378 : decode cL_law 378 = .ok (.invokevirtual 57, 3) := by decide +kernel
theorem dL_law_381 : decode cL_law 381 = .ok (.if_icmp .eq 271, 3) := by decide +kernel
theorem dL_law_384 : decode cL_law 384 = .ok (.iconst 0, 1) := by decide +kernel
theorem dL_law_385 : decode cL_law 385 = .ok (.ireturn, 1) := by decide +kernel
theorem dL_law_386 : decode cL_law 386 = .ok (.aload_n 1, 1) := by decide +kernel
theorem dL_law_387 : decode cL_law 387 = .ok (.invokevirtual 58, 3) := by decide +kernel
theorem dL_law_390 : decode cL_law 390 = .ok (.aload_n 2, 1) := by decide +kernel
theorem dL_law_391 : decode cL_law 391 = .ok (.invokevirtual 61, 3) := by decide +kernel
theorem dL_law_394 : decode cL_law 394 = .ok (.if_icmp .eq 258, 3) := by decide +kernel
theorem dL_law_397 : decode cL_law 397 = .ok (.iconst 0, 1) := by decide +kernel
theorem dL_law_398 : decode cL_law 398 = .ok (.ireturn, 1) := by decide +kernel
theorem dL_law_399 : decode cL_law 399 = .ok (.aload_n 1, 1) := by decide +kernel
theorem dL_law_400 : decode cL_law 400 = .ok (.invokevirtual 62, 3) := by decide +kernel
theorem dL_law_403 : decode cL_law 403 = .ok (.aload_n 2, 1) := by decide +kernel
theorem dL_law_404 : decode cL_law 404 = .ok (.invokevirtual 65, 3) := by decide +kernel
theorem dL_law_407 : decode cL_law 407 = .ok (.if_icmp .eq 245, 3) := by decide +kernel
theorem dL_law_410 : decode cL_law 410 = .ok (.iconst 0, 1) := by decide +kernel
theorem dL_law_411 : decode cL_law 411 = .ok (.ireturn, 1) := by decide +kernel
theorem dL_law_412 : decode cL_law 412 = .ok (.aload_n 1, 1) := by decide +kernel
theorem dL_law_413 : decode cL_law 413 = .ok (.invokevirtual 66, 3) := by decide +kernel
theorem dL_law_416 : decode cL_law 416 = .ok (.aload_n 2, 1) := by decide +kernel
theorem dL_law_417 : decode cL_law 417 = .ok (.invokevirtual 69, 3) := by decide +kernel
theorem dL_law_420 : decode cL_law 420 = .ok (.if_icmp .eq 232, 3) := by decide +kernel
theorem dL_law_423 : decode cL_law 423 = .ok (.iconst 0, 1) := by decide +kernel
theorem dL_law_424 : decode cL_law 424 = .ok (.ireturn, 1) := by decide +kernel
theorem dL_law_425 : decode cL_law 425 = .ok (.aload_n 1, 1) := by decide +kernel
theorem dL_law_426 : decode cL_law 426 = .ok (.aload_n 0, 1) := by decide +kernel
theorem dL_law_427 : decode cL_law 427 = .ok (.iload_n 3, 1) := by decide +kernel
theorem dL_law_428 : decode cL_law 428 = .ok (.iconst 1, 1) := by decide +kernel
theorem dL_law_429 : decode cL_law 429 = .ok (.iadd, 1) := by decide +kernel
theorem dL_law_430 : decode cL_law 430 = .ok (.iaload, 1) := by decide +kernel
theorem dL_law_431 : decode cL_law 431 = .ok (.aload_n 0, 1) := by decide +kernel
theorem dL_law_432 : decode cL_law 432 = .ok (.iload_n 3, 1) := by decide +kernel
theorem dL_law_433 : decode cL_law 433 = .ok (.iconst 2, 1) := by decide +kernel
theorem dL_law_434 : decode cL_law 434 = .ok (.iadd, 1) := by decide +kernel
theorem dL_law_435 : decode cL_law 435 = .ok (.iaload, 1) := by decide +kernel
theorem dL_law_436 : decode cL_law 436 = .ok (.invokevirtual 70, 3) := by decide +kernel
theorem dL_law_439 : decode cL_law 439 = .ok (.aload_n 2, 1) := by decide +kernel
theorem dL_law_440 : decode cL_law 440 = .ok (.aload_n 0, 1) := by decide +kernel
theorem dL_law_441 : decode cL_law 441 = .ok (.iload_n 3, 1) := by decide +kernel
theorem dL_law_442 : decode cL_law 442 = .ok (.iconst 1, 1) := by decide +kernel
theorem dL_law_443 : decode cL_law 443 = .ok (.iadd, 1) := by decide +kernel
theorem dL_law_444 : decode cL_law 444 = .ok (.iaload, 1) := by decide +kernel
theorem dL_law_445 : decode cL_law 445 = .ok (.aload_n 0, 1) := by decide +kernel
theorem dL_law_446 : decode cL_law 446 = .ok (.iload_n 3, 1) := by decide +kernel
theorem dL_law_447 : decode cL_law 447 = .ok (.iconst 2, 1) := by decide +kernel
theorem dL_law_448 : decode cL_law 448 = .ok (.iadd, 1) := by decide +kernel
theorem dL_law_449 : decode cL_law 449 = .ok (.iaload, 1) := by decide +kernel
theorem dL_law_450 : decode cL_law 450 = .ok (.invokevirtual 73, 3) := by decide +kernel
theorem dL_law_453 : decode cL_law 453 = .ok (.if_icmp .eq 199, 3) := by decide +kernel
theorem dL_law_456 : decode cL_law 456 = .ok (.iconst 0, 1) := by decide +kernel
theorem dL_law_457 : decode cL_law 457 = .ok (.ireturn, 1) := by decide +kernel
theorem dL_law_458 : decode cL_law 458 = .ok (.aload_n 1, 1) := by decide +kernel
theorem dL_law_459 : decode cL_law 459 = .ok (.aload_n 0, 1) := by decide +kernel
theorem dL_law_460 : decode cL_law 460 = .ok (.iload_n 3, 1) := by decide +kernel
theorem dL_law_461 : decode cL_law 461 = .ok (.iconst 1, 1) := by decide +kernel
theorem dL_law_462 : decode cL_law 462 = .ok (.iadd, 1) := by decide +kernel
theorem dL_law_463 : decode cL_law 463 = .ok (.iaload, 1) := by decide +kernel
theorem dL_law_464 : decode cL_law 464 = .ok (.aload_n 0, 1) := by decide +kernel
theorem dL_law_465 : decode cL_law 465 = .ok (.iload_n 3, 1) := by decide +kernel
theorem dL_law_466 : decode cL_law 466 = .ok (.iconst 2, 1) := by decide +kernel
theorem dL_law_467 : decode cL_law 467 = .ok (.iadd, 1) := by decide +kernel
theorem dL_law_468 : decode cL_law 468 = .ok (.iaload, 1) := by decide +kernel
theorem dL_law_469 : decode cL_law 469 = .ok (.aload_n 0, 1) := by decide +kernel
theorem dL_law_470 : decode cL_law 470 = .ok (.iload_n 3, 1) := by decide +kernel
theorem dL_law_471 : decode cL_law 471 = .ok (.iconst 3, 1) := by decide +kernel
theorem dL_law_472 : decode cL_law 472 = .ok (.iadd, 1) := by decide +kernel
theorem dL_law_473 : decode cL_law 473 = .ok (.iaload, 1) := by decide +kernel
theorem dL_law_474 : decode cL_law 474 = .ok (.invokevirtual 74, 3) := by decide +kernel
theorem dL_law_477 : decode cL_law 477 = .ok (.aload_n 2, 1) := by decide +kernel
theorem dL_law_478 : decode cL_law 478 = .ok (.aload_n 0, 1) := by decide +kernel
theorem dL_law_479 : decode cL_law 479 = .ok (.iload_n 3, 1) := by decide +kernel
theorem dL_law_480 : decode cL_law 480 = .ok (.iconst 1, 1) := by decide +kernel
theorem dL_law_481 : decode cL_law 481 = .ok (.iadd, 1) := by decide +kernel
theorem dL_law_482 : decode cL_law 482 = .ok (.iaload, 1) := by decide +kernel
theorem dL_law_483 : decode cL_law 483 = .ok (.aload_n 0, 1) := by decide +kernel
theorem dL_law_484 : decode cL_law 484 = .ok (.iload_n 3, 1) := by decide +kernel
theorem dL_law_485 : decode cL_law 485 = .ok (.iconst 2, 1) := by decide +kernel
theorem dL_law_486 : decode cL_law 486 = .ok (.iadd, 1) := by decide +kernel
theorem dL_law_487 : decode cL_law 487 = .ok (.iaload, 1) := by decide +kernel
theorem dL_law_488 : decode cL_law 488 = .ok (.aload_n 0, 1) := by decide +kernel
theorem dL_law_489 : decode cL_law 489 = .ok (.iload_n 3, 1) := by decide +kernel
theorem dL_law_490 : decode cL_law 490 = .ok (.iconst 3, 1) := by decide +kernel
theorem dL_law_491 : decode cL_law 491 = .ok (.iadd, 1) := by decide +kernel
theorem dL_law_492 : decode cL_law 492 = .ok (.iaload, 1) := by decide +kernel
theorem dL_law_493 : decode cL_law 493 = .ok (.invokevirtual 78, 3) := by decide +kernel
theorem dL_law_496 : decode cL_law 496 = .ok (.if_icmp .eq 156, 3) := by decide +kernel
theorem dL_law_499 : decode cL_law 499 = .ok (.iconst 0, 1) := by decide +kernel
theorem dL_law_500 : decode cL_law 500 = .ok (.ireturn, 1) := by decide +kernel
theorem dL_law_501 : decode cL_law 501 = .ok (.aload_n 1, 1) := by decide +kernel
theorem dL_law_502 : decode cL_law 502 = .ok (.aload_n 0, 1) := by decide +kernel
theorem dL_law_503 : decode cL_law 503 = .ok (.iload_n 3, 1) := by decide +kernel
theorem dL_law_504 : decode cL_law 504 = .ok (.iconst 1, 1) := by decide +kernel
theorem dL_law_505 : decode cL_law 505 = .ok (.iadd, 1) := by decide +kernel
theorem dL_law_506 : decode cL_law 506 = .ok (.iaload, 1) := by decide +kernel
theorem dL_law_507 : decode cL_law 507 = .ok (.invokevirtual 79, 3) := by decide +kernel
theorem dL_law_510 : decode cL_law 510 = .ok (.aload_n 2, 1) := by decide +kernel
theorem dL_law_511 : decode cL_law 511 = .ok (.aload_n 0, 1) := by decide +kernel
theorem dL_law_512 : decode cL_law 512 = .ok (.iload_n 3, 1) := by decide +kernel
theorem dL_law_513 : decode cL_law 513 = .ok (.iconst 1, 1) := by decide +kernel
theorem dL_law_514 : decode cL_law 514 = .ok (.iadd, 1) := by decide +kernel
theorem dL_law_515 : decode cL_law 515 = .ok (.iaload, 1) := by decide +kernel
theorem dL_law_516 : decode cL_law 516 = .ok (.invokevirtual 82, 3) := by decide +kernel
theorem dL_law_519 : decode cL_law 519 = .ok (.if_icmp .eq 133, 3) := by decide +kernel
theorem dL_law_522 : decode cL_law 522 = .ok (.iconst 0, 1) := by decide +kernel
theorem dL_law_523 : decode cL_law 523 = .ok (.ireturn, 1) := by decide +kernel
theorem dL_law_524 : decode cL_law 524 = .ok (.aload_n 1, 1) := by decide +kernel
theorem dL_law_525 : decode cL_law 525 = .ok (.aload_n 0, 1) := by decide +kernel
theorem dL_law_526 : decode cL_law 526 = .ok (.iload_n 3, 1) := by decide +kernel
theorem dL_law_527 : decode cL_law 527 = .ok (.iconst 1, 1) := by decide +kernel
theorem dL_law_528 : decode cL_law 528 = .ok (.iadd, 1) := by decide +kernel
theorem dL_law_529 : decode cL_law 529 = .ok (.iaload, 1) := by decide +kernel
theorem dL_law_530 : decode cL_law 530 = .ok (.ifCond .eq 7, 3) := by decide +kernel
theorem dL_law_533 : decode cL_law 533 = .ok (.iconst 1, 1) := by decide +kernel
theorem dL_law_534 : decode cL_law 534 = .ok (.goto 4, 3) := by decide +kernel
theorem dL_law_537 : decode cL_law 537 = .ok (.iconst 0, 1) := by decide +kernel
theorem dL_law_538 : decode cL_law 538 = .ok (.invokevirtual 83, 3) := by decide +kernel
theorem dL_law_541 : decode cL_law 541 = .ok (.aload_n 2, 1) := by decide +kernel
theorem dL_law_542 : decode cL_law 542 = .ok (.aload_n 0, 1) := by decide +kernel
theorem dL_law_543 : decode cL_law 543 = .ok (.iload_n 3, 1) := by decide +kernel
theorem dL_law_544 : decode cL_law 544 = .ok (.iconst 1, 1) := by decide +kernel
theorem dL_law_545 : decode cL_law 545 = .ok (.iadd, 1) := by decide +kernel
theorem dL_law_546 : decode cL_law 546 = .ok (.iaload, 1) := by decide +kernel
theorem dL_law_547 : decode cL_law 547 = .ok (.ifCond .eq 7, 3) := by decide +kernel
theorem dL_law_550 : decode cL_law 550 = .ok (.iconst 1, 1) := by decide +kernel
theorem dL_law_551 : decode cL_law 551 = .ok (.goto 4, 3) := by decide +kernel
theorem dL_law_554 : decode cL_law 554 = .ok (.iconst 0, 1) := by decide +kernel
theorem dL_law_555 : decode cL_law 555 = .ok (.invokevirtual 86, 3) := by decide +kernel
theorem dL_law_558 : decode cL_law 558 = .ok (.if_icmp .eq 94, 3) := by decide +kernel
theorem dL_law_561 : decode cL_law 561 = .ok (.iconst 0, 1) := by decide +kernel
theorem dL_law_562 : decode cL_law 562 = .ok (.ireturn, 1) := by decide +kernel
theorem dL_law_563 : decode cL_law 563 = .ok (.aload_n 1, 1) := by decide +kernel
theorem dL_law_564 : decode cL_law 564 = .ok (.aload_n 0, 1) := by decide +kernel
theorem dL_law_565 : decode cL_law 565 = .ok (.iload_n 3, 1) := by decide +kernel
theorem dL_law_566 : decode cL_law 566 = .ok (.iconst 1, 1) := by decide +kernel
theorem dL_law_567 : decode cL_law 567 = .ok (.iadd, 1) := by decide +kernel
theorem dL_law_568 : decode cL_law 568 = .ok (.iaload, 1) := by decide +kernel
theorem dL_law_569 : decode cL_law 569 = .ok (.aload_n 0, 1) := by decide +kernel
theorem dL_law_570 : decode cL_law 570 = .ok (.iload_n 3, 1) := by decide +kernel
theorem dL_law_571 : decode cL_law 571 = .ok (.iconst 2, 1) := by decide +kernel
theorem dL_law_572 : decode cL_law 572 = .ok (.iadd, 1) := by decide +kernel
theorem dL_law_573 : decode cL_law 573 = .ok (.iaload, 1) := by decide +kernel
theorem dL_law_574 : decode cL_law 574 = .ok (.aload_n 0, 1) := by decide +kernel
theorem dL_law_575 : decode cL_law 575 = .ok (.iload_n 3, 1) := by decide +kernel
theorem dL_law_576 : decode cL_law 576 = .ok (.iconst 3, 1) := by decide +kernel
theorem dL_law_577 : decode cL_law 577 = .ok (.iadd, 1) := by decide +kernel
theorem dL_law_578 : decode cL_law 578 = .ok (.iaload, 1) := by decide +kernel
theorem dL_law_579 : decode cL_law 579 = .ok (.invokevirtual 87, 3) := by decide +kernel
theorem dL_law_582 : decode cL_law 582 = .ok (.aload_n 2, 1) := by decide +kernel
theorem dL_law_583 : decode cL_law 583 = .ok (.aload_n 0, 1) := by decide +kernel
theorem dL_law_584 : decode cL_law 584 = .ok (.iload_n 3, 1) := by decide +kernel
theorem dL_law_585 : decode cL_law 585 = .ok (.iconst 1, 1) := by decide +kernel
theorem dL_law_586 : decode cL_law 586 = .ok (.iadd, 1) := by decide +kernel
theorem dL_law_587 : decode cL_law 587 = .ok (.iaload, 1) := by decide +kernel
theorem dL_law_588 : decode cL_law 588 = .ok (.aload_n 0, 1) := by decide +kernel
theorem dL_law_589 : decode cL_law 589 = .ok (.iload_n 3, 1) := by decide +kernel
theorem dL_law_590 : decode cL_law 590 = .ok (.iconst 2, 1) := by decide +kernel
theorem dL_law_591 : decode cL_law 591 = .ok (.iadd, 1) := by decide +kernel
theorem dL_law_592 : decode cL_law 592 = .ok (.iaload, 1) := by decide +kernel
theorem dL_law_593 : decode cL_law 593 = .ok (.aload_n 0, 1) := by decide +kernel
theorem dL_law_594 : decode cL_law 594 = .ok (.iload_n 3, 1) := by decide +kernel
theorem dL_law_595 : decode cL_law 595 = .ok (.iconst 3, 1) := by decide +kernel
theorem dL_law_596 : decode cL_law 596 = .ok (.iadd, 1) := by decide +kernel
theorem dL_law_597 : decode cL_law 597 = .ok (.iaload, 1) := by decide +kernel
theorem dL_law_598 : decode cL_law 598 = .ok (.invokevirtual 90, 3) := by decide +kernel
theorem dL_law_601 : decode cL_law 601 = .ok (.if_icmp .eq 51, 3) := by decide +kernel
theorem dL_law_604 : decode cL_law 604 = .ok (.iconst 0, 1) := by decide +kernel
theorem dL_law_605 : decode cL_law 605 = .ok (.ireturn, 1) := by decide +kernel
theorem dL_law_606 : decode cL_law 606 = .ok (.aload_n 1, 1) := by decide +kernel
theorem dL_law_607 : decode cL_law 607 = .ok (.aload_n 0, 1) := by decide +kernel
theorem dL_law_608 : decode cL_law 608 = .ok (.iload_n 3, 1) := by decide +kernel
theorem dL_law_609 : decode cL_law 609 = .ok (.iconst 1, 1) := by decide +kernel
theorem dL_law_610 : decode cL_law 610 = .ok (.iadd, 1) := by decide +kernel
theorem dL_law_611 : decode cL_law 611 = .ok (.iaload, 1) := by decide +kernel
theorem dL_law_612 : decode cL_law 612 = .ok (.invokevirtual 91, 3) := by decide +kernel
theorem dL_law_615 : decode cL_law 615 = .ok (.aload_n 2, 1) := by decide +kernel
theorem dL_law_616 : decode cL_law 616 = .ok (.aload_n 0, 1) := by decide +kernel
theorem dL_law_617 : decode cL_law 617 = .ok (.iload_n 3, 1) := by decide +kernel
theorem dL_law_618 : decode cL_law 618 = .ok (.iconst 1, 1) := by decide +kernel
theorem dL_law_619 : decode cL_law 619 = .ok (.iadd, 1) := by decide +kernel
theorem dL_law_620 : decode cL_law 620 = .ok (.iaload, 1) := by decide +kernel
theorem dL_law_621 : decode cL_law 621 = .ok (.invokevirtual 94, 3) := by decide +kernel
theorem dL_law_624 : decode cL_law 624 = .ok (.if_icmp .eq 28, 3) := by decide +kernel
theorem dL_law_627 : decode cL_law 627 = .ok (.iconst 0, 1) := by decide +kernel
theorem dL_law_628 : decode cL_law 628 = .ok (.ireturn, 1) := by decide +kernel
theorem dL_law_629 : decode cL_law 629 = .ok (.aload_n 1, 1) := by decide +kernel
theorem dL_law_630 : decode cL_law 630 = .ok (.aload_n 0, 1) := by decide +kernel
theorem dL_law_631 : decode cL_law 631 = .ok (.iload_n 3, 1) := by decide +kernel
theorem dL_law_632 : decode cL_law 632 = .ok (.iconst 1, 1) := by decide +kernel
theorem dL_law_633 : decode cL_law 633 = .ok (.iadd, 1) := by decide +kernel
theorem dL_law_634 : decode cL_law 634 = .ok (.iaload, 1) := by decide +kernel
theorem dL_law_635 : decode cL_law 635 = .ok (.invokevirtual 95, 3) := by decide +kernel
theorem dL_law_638 : decode cL_law 638 = .ok (.aload_n 2, 1) := by decide +kernel
theorem dL_law_639 : decode cL_law 639 = .ok (.aload_n 0, 1) := by decide +kernel
theorem dL_law_640 : decode cL_law 640 = .ok (.iload_n 3, 1) := by decide +kernel
theorem dL_law_641 : decode cL_law 641 = .ok (.iconst 1, 1) := by decide +kernel
theorem dL_law_642 : decode cL_law 642 = .ok (.iadd, 1) := by decide +kernel
theorem dL_law_643 : decode cL_law 643 = .ok (.iaload, 1) := by decide +kernel
theorem dL_law_644 : decode cL_law 644 = .ok (.invokevirtual 98, 3) := by decide +kernel
theorem dL_law_647 : decode cL_law 647 = .ok (.if_icmp .eq 5, 3) := by decide +kernel
theorem dL_law_650 : decode cL_law 650 = .ok (.iconst 0, 1) := by decide +kernel
theorem dL_law_651 : decode cL_law 651 = .ok (.ireturn, 1) := by decide +kernel
theorem dL_law_652 : decode cL_law 652 = .ok (.iinc 3 4, 3) := by decide +kernel
theorem dL_law_655 : decode cL_law 655 = .ok (.goto (-637), 3) := by decide +kernel
theorem dL_law_658 : decode cL_law 658 = .ok (.iconst 1, 1) := by decide +kernel
theorem dL_law_659 : decode cL_law 659 = .ok (.ireturn, 1) := by decide +kernel
