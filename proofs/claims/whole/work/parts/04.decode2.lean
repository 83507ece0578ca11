theorem dX2_setVoltage_17 : decode cX2_setVoltage 17 = .ok (.istore_n 2, 1) := by decide +kernel
theorem dX2_setVoltage_18 : decode cX2_setVoltage 18 = .ok (.iload_n 2, 1) := by decide +kernel
theorem dX2_setVoltage_19 : decode cX2_setVoltage 19 = .ok (.iload_n 1, 1) := by decide +kernel
theorem dX2_setVoltage_20 : decode cX2_setVoltage 20 = .ok (.if_icmp .ne 6, 3) := by decide +kernel
theorem dX2_setVoltage_23 : decode cX2_setVoltage 23 = .ok (.bipush (-5), 2) := by decide +kernel
theorem dX2_setVoltage_25 : decode cX2_setVoltage 25 = .ok (.ireturn, 1) := by decide +kernel
theorem dX2_setVoltage_26 : decode cX2_setVoltage 26 = .ok (.aload_n 0, 1) := by decide +kernel
theorem dX2_setVoltage_27 : decode cX2_setVoltage 27 = .ok (.invokevirtual 41, 3) := by decide +kernel
theorem dX2_setVoltage_30 : decode cX2_setVoltage 30 = .ok (.aload_n 0, 1) := by decide +kernel
theorem dX2_setVoltage_31 : decode cX2_setVoltage 31 = .ok (.getfield 10, 3) := by decide +kernel
theorem dX2_setVoltage_34 : decode cX2_setVoltage 34 = .ok (.iload_n 1, 1) := by decide +kernel
theorem dX2_setVoltage_35 : decode cX2_setVoltage 35 = .ok (.putfield 79, 3) := by decide +kernel
theorem dX2_setVoltage_38 : decode cX2_setVoltage 38 = .ok (.iload_n 2, 1) := by decide +kernel
theorem dX2_setVoltage_39 : decode cX2_setVoltage 39 = .ok (.ireturn, 1) := by decide +kernel
theorem dX2_govern_0 : decode cX2_govern 0 = .ok (.aload_n 0, 1) := by decide +kernel
theorem dX2_govern_1 : decode cX2_govern 1 = .ok (.getfield 10, 3) := by decide +kernel
theorem dX2_govern_4 : decode cX2_govern 4 = .ok (.getfield 82, 3) := by decide +kernel
theorem dX2_govern_7 : decode cX2_govern 7 = .ok (.iload_n 1, 1) := by decide +kernel
theorem dX2_govern_8 : decode cX2_govern 8 = .ok (.if_icmp .ne 6, 3) := by decide +kernel
theorem dX2_govern_11 : decode cX2_govern 11 = .ok (.bipush (-5), 2) := by decide +kernel
theorem dX2_govern_13 : decode cX2_govern 13 = .ok (.ireturn, 1) := by decide +kernel
theorem dX2_govern_14 : decode cX2_govern 14 = .ok (.aload_n 0, 1) := by decide +kernel
theorem dX2_govern_15 : decode cX2_govern 15 = .ok (.invokevirtual 41, 3) := by decide +kernel
theorem dX2_govern_18 : decode cX2_govern 18 = .ok (.aload_n 0, 1) := by decide +kernel
theorem dX2_govern_19 : decode cX2_govern 19 = .ok (.getfield 10, 3) := by decide +kernel
theorem dX2_govern_22 : decode cX2_govern 22 = .ok (.iload_n 1, 1) := by decide +kernel
theorem dX2_govern_23 : decode cX2_govern 23 = .ok (.putfield 82, 3) := by decide +kernel
theorem dX2_govern_26 : decode cX2_govern 26 = .ok (.aload_n 0, 1) := by decide +kernel
theorem dX2_govern_27 : decode cX2_govern 27 = .ok (.getfield 10, 3) := by decide +kernel
theorem dX2_govern_30 : decode cX2_govern 30 = .ok (.invokevirtual 86, 3) := by decide +kernel
theorem dX2_govern_33 : decode cX2_govern 33 = .ok (.aload_n 0, 1) := by decide +kernel
theorem dX2_govern_34 : decode cX2_govern 34 = .ok (.getfield 10, 3) := by decide +kernel
theorem dX2_govern_37 : decode cX2_govern 37 = .ok (.getfield 79, 3) := by decide +kernel
theorem dX2_govern_40 : decode cX2_govern 40 = .ok (.ireturn, 1) := by decide +kernel
theorem dX2_set_0 : decode cX2_set 0 = .ok (.iload_n 1, 1) := by decide +kernel
theorem dX2_set_1 : decode cX2_set 1 = .ok (.iconst 0, 1) := by decide +kernel
theorem dX2_set_2 : decode cX2_set 2 = .ok (.bipush 6, 2) := by decide +kernel
theorem dX2_set_4 : decode cX2_set 4 = .ok (.invokestatic 66, 3) := by decide +kernel
theorem dX2_set_7 : decode cX2_set 7 = .ok (.ifCond .ne 6, 3) := by decide +kernel
theorem dX2_set_10 : decode cX2_set 10 = .ok (.bipush (-2), 2) := by decide +kernel
theorem dX2_set_12 : decode cX2_set 12 = .ok (.ireturn, 1) := by decide +kernel
theorem dX2_set_13 : decode cX2_set 13 = .ok (.iload_n 2, 1) := by decide +kernel
theorem dX2_set_14 : decode cX2_set 14 = .ok (.getstatic 89, 3) := by decide +kernel
theorem dX2_set_17 : decode cX2_set 17 = .ok (.iload_n 1, 1) := by decide +kernel
theorem dX2_set_18 : decode cX2_set 18 = .ok (.iaload, 1) := by decide +kernel
theorem dX2_set_19 : decode cX2_set 19 = .ok (.getstatic 92, 3) := by decide +kernel
theorem dX2_set_22 : decode cX2_set 22 = .ok (.iload_n 1, 1) := by decide +kernel
theorem dX2_set_23 : decode cX2_set 23 = .ok (.iaload, 1) := by decide +kernel
theorem dX2_set_24 : decode cX2_set 24 = .ok (.invokestatic 66, 3) := by decide +kernel
theorem dX2_set_27 : decode cX2_set 27 = .ok (.ifCond .ne 6, 3) := by decide +kernel
theorem dX2_set_30 : decode cX2_set 30 = .ok (.bipush (-2), 2) := by decide +kernel
theorem dX2_set_32 : decode cX2_set 32 = .ok (.ireturn, 1) := by decide +kernel
theorem dX2_set_33 : decode cX2_set 33 = .ok (.aload_n 0, 1) := by decide +kernel
theorem dX2_set_34 : decode cX2_set 34 = .ok (.getfield 10, 3) := by decide +kernel
theorem dX2_set_37 : decode cX2_set 37 = .ok (.getfield 95, 3) := by decide +kernel
theorem dX2_set_40 : decode cX2_set 40 = .ok (.iload_n 1, 1) := by decide +kernel
theorem dX2_set_41 : decode cX2_set 41 = .ok (.iaload, 1) := by decide +kernel
theorem dX2_set_42 : decode cX2_set 42 = .ok (.istore_n 3, 1) := by decide +kernel
theorem dX2_set_43 : decode cX2_set 43 = .ok (.iload_n 3, 1) := by decide +kernel
theorem dX2_set_44 : decode cX2_set 44 = .ok (.iload_n 2, 1) := by decide +kernel
theorem dX2_set_45 : decode cX2_set 45 = .ok (.if_icmp .ne 6, 3) := by decide +kernel
theorem dX2_set_48 : decode cX2_set 48 = .ok (.bipush (-5), 2) := by decide +kernel
theorem dX2_set_50 : decode cX2_set 50 = .ok (.ireturn, 1) := by decide +kernel
theorem dX2_set_51 : decode cX2_set 51 = .ok (.aload_n 0, 1) := by decide +kernel
theorem dX2_set_52 : decode cX2_set 52 = .ok (.invokevirtual 41, 3) := by decide +kernel
theorem dX2_set_55 : decode cX2_set 55 = .ok (.aload_n 0, 1) := by decide +kernel
theorem dX2_set_56 : decode cX2_set 56 = .ok (.getfield 10, 3) := by decide +kernel
theorem dX2_set_59 : decode cX2_set 59 = .ok (.getfield 95, 3) := by decide +kernel
theorem dX2_set_62 : decode cX2_set 62 = .ok (.iload_n 1, 1) := by decide +kernel
theorem dX2_set_63 : decode cX2_set 63 = .ok (.iload_n 2, 1) := by decide +kernel
theorem dX2_set_64 : decode cX2_set 64 = .ok (.iastore, 1) := by decide +kernel
theorem dX2_set_65 : decode cX2_set 65 = .ok (.iload_n 3, 1) := by decide +kernel
theorem dX2_set_66 : decode cX2_set 66 = .ok (.ireturn, 1) := by decide +kernel
theorem dX2_run_0 : decode cX2_run 0 = .ok (.iload_n 1, 1) := by decide +kernel
theorem dX2_run_1 : decode cX2_run 1 = .ok (.iconst 1, 1) := by decide +kernel
theorem dX2_run_2 : decode cX2_run 2 = .ok (.sipush 2000, 3) := by decide +kernel
theorem dX2_run_5 : decode cX2_run 5 = .ok (.invokestatic 66, 3) := by decide +kernel
theorem dX2_run_8 : decode cX2_run 8 = .ok (.ifCond .ne 6, 3) := by decide +kernel
theorem dX2_run_11 : decode cX2_run 11 = .ok (.bipush (-2), 2) := by decide +kernel
theorem dX2_run_13 : decode cX2_run 13 = .ok (.ireturn, 1) := by decide +kernel
theorem dX2_run_14 : decode cX2_run 14 = .ok (.aload_n 0, 1) := by decide +kernel
theorem dX2_run_15 : decode cX2_run 15 = .ok (.invokevirtual 41, 3) := by decide +kernel
theorem dX2_run_18 : decode cX2_run 18 = .ok (.aload_n 0, 1) := by decide +kernel
theorem dX2_run_19 : decode cX2_run 19 = .ok (.getfield 10, 3) := by decide +kernel
theorem dX2_run_22 : decode cX2_run 22 = .ok (.getfield 98, 3) := by decide +kernel
theorem dX2_run_25 : decode cX2_run 25 = .ok (.istore_n 2, 1) := by decide +kernel
theorem dX2_run_26 : decode cX2_run 26 = .ok (.aload_n 0, 1) := by decide +kernel
theorem dX2_run_27 : decode cX2_run 27 = .ok (.getfield 10, 3) := by decide +kernel
theorem dX2_run_30 : decode cX2_run 30 = .ok (.iload_n 1, 1) := by decide +kernel
theorem dX2_run_31 : decode cX2_run 31 = .ok (.invokevirtual 101, 3) := by decide +kernel
theorem dX2_run_34 : decode cX2_run 34 = .ok (.aload_n 0, 1) := by decide +kernel
theorem dX2_run_35 : decode cX2_run 35 = .ok (.getfield 10, 3) := by decide +kernel
theorem dX2_run_38 : decode cX2_run 38 = .ok (.getfield 98, 3) := by decide +kernel
theorem dX2_run_41 : decode cX2_run 41 = .ok (.iload_n 2, 1) := by decide +kernel
theorem dX2_run_42 : decode cX2_run 42 = .ok (.isub, 1) := by decide +kernel
theorem dX2_run_43 : decode cX2_run 43 = .ok (.ireturn, 1) := by decide +kernel
theorem dX2_type_0 : decode cX2_type 0 = .ok (.aload_n 0, 1) := by decide +kernel
theorem dX2_type_1 : decode cX2_type 1 = .ok (.getfield 29, 3) := by decide +kernel
theorem dX2_type_4 : decode cX2_type 4 = .ok (.iload_n 1, 1) := by decide +kernel
theorem dX2_type_5 : decode cX2_type 5 = .ok (.invokevirtual 104, 3) := by decide +kernel
theorem dX2_type_8 : decode cX2_type 8 = .ok (.ifCond .eq 13, 3) := by decide +kernel
theorem dX2_type_11 : decode cX2_type 11 = .ok (.aload_n 0, 1) := by decide +kernel
theorem dX2_type_12 : decode cX2_type 12 = .ok (.getfield 29, 3) := by decide +kernel
theorem dX2_type_15 : decode cX2_type 15 = .ok (.getfield 108, 3) := by decide +kernel
theorem dX2_type_18 : decode cX2_type 18 = .ok (.goto 5, 3) := by decide +kernel
theorem dX2_type_21 : decode cX2_type 21 = .ok (.bipush (-3), 2) := by decide +kernel
theorem dX2_type_23 : decode cX2_type 23 = .ok (.ireturn, 1) := by decide +kernel
theorem dX2_clearText_0 : decode cX2_clearText 0 = .ok (.aload_n 0, 1) := by decide +kernel
theorem dX2_clearText_1 : decode cX2_clearText 1 = .ok (.getfield 29, 3) := by decide +kernel
theorem dX2_clearText_4 : decode cX2_clearText 4 = .ok (.getfield 108, 3) := by decide +kernel
theorem dX2_clearText_7 : decode cX2_clearText 7 = .ok (.istore_n 1, 1) := by decide +kernel
theorem dX2_clearText_8 : decode cX2_clearText 8 = .ok (.aload_n 0, 1) := by decide +kernel
theorem dX2_clearText_9 : decode cX2_clearText 9 = .ok (.getfield 29, 3) := by decide +kernel
theorem dX2_clearText_12 : decode cX2_clearText 12 = .ok (.iconst 0, 1) := by decide +kernel
theorem dX2_clearText_13 : decode cX2_clearText 13 = .ok (.putfield 108, 3) := by decide +kernel
theorem dX2_clearText_16 : decode cX2_clearText 16 = .ok (.iload_n 1, 1) := by decide +kernel
theorem dX2_clearText_17 : decode cX2_clearText 17 = .ok (.ireturn, 1) := by decide +kernel
theorem dX2_undo_0 : decode cX2_undo 0 = .ok (.aload_n 0, 1) := by decide +kernel
theorem dX2_undo_1 : decode cX2_undo 1 = .ok (.getfield 111, 3) := by decide +kernel
theorem dX2_undo_4 : decode cX2_undo 4 = .ok (.ifCond .ne 6, 3) := by decide +kernel
theorem dX2_undo_7 : decode cX2_undo 7 = .ok (.bipush (-5), 2) := by decide +kernel
theorem dX2_undo_9 : decode cX2_undo 9 = .ok (.ireturn, 1) := by decide +kernel
theorem dX2_undo_10 : decode cX2_undo 10 = .ok (.aload_n 0, 1) := by decide +kernel
theorem dX2_undo_11 : decode cX2_undo 11 = .ok (.dup, 1) := by decide +kernel
theorem dX2_undo_12 : decode cX2_undo 12 = .ok (.getfield 111, 3) := by decide +kernel
theorem dX2_undo_15 : decode cX2_undo 15 = .ok (.iconst 1, 1) := by decide +kernel
theorem dX2_undo_16 : decode cX2_undo 16 = .ok (.isub, 1) := by decide +kernel
theorem dX2_undo_17 : decode cX2_undo 17 = .ok (.putfield 111, 3) := by decide +kernel
theorem dX2_undo_20 : decode cX2_undo 20 = .ok (.aload_n 0, 1) := by decide +kernel
theorem dX2_undo_21 : decode cX2_undo 21 = .ok (.getfield 10, 3) := by decide +kernel
theorem dX2_undo_24 : decode cX2_undo 24 = .ok (.aload_n 0, 1) := by decide +kernel
theorem dX2_undo_25 : decode cX2_undo 25 = .ok (.getfield 22, 3) := by decide +kernel
theorem dX2_undo_28 : decode cX2_undo 28 = .ok (.aload_n 0, 1) := by decide +kernel
theorem dX2_undo_29 : decode cX2_undo 29 = .ok (.getfield 111, 3) := by decide +kernel
theorem dX2_undo_32 : decode cX2_undo 32 = .ok (.aaload, 1) := by decide +kernel
theorem dX2_undo_33 : decode cX2_undo 33 = .ok (.invokevirtual 114, 3) := by decide +kernel
theorem dX2_undo_36 : decode cX2_undo 36 = .ok (.aload_n 0, 1) := by decide +kernel
theorem dX2_undo_37 : decode cX2_undo 37 = .ok (.getfield 111, 3) := by decide +kernel
theorem dX2_undo_40 : decode cX2_undo 40 = .ok (.ireturn, 1) := by decide +kernel
theorem dX2_keep_0 : decode cX2_keep 0 = .ok (.aload_n 0, 1) := by decide +kernel
theorem dX2_keep_1 : decode cX2_keep 1 = .ok (.getfield 16, 3) := by decide +kernel
theorem dX2_keep_4 : decode cX2_keep 4 = .ok (.aload_n 0, 1) := by decide +kernel
theorem dX2_keep_5 : decode cX2_keep 5 = .ok (.getfield 10, 3) := by decide +kernel
theorem dX2_keep_8 : decode cX2_keep 8 = .ok (.invokevirtual 114, 3) := by decide +kernel
theorem dX2_keep_11 : decode cX2_keep 11 = .ok (.aload_n 0, 1) := by decide +kernel
theorem dX2_keep_12 : decode cX2_keep 12 = .ok (.iconst 1, 1) := by decide +kernel
theorem dX2_keep_13 : decode cX2_keep 13 = .ok (.putfield 118, 3) := by decide +kernel
theorem dX2_keep_16 : decode cX2_keep 16 = .ok (.aload_n 0, 1) := by decide +kernel
theorem dX2_keep_17 : decode cX2_keep 17 = .ok (.getfield 10, 3) := by decide +kernel
theorem dX2_keep_20 : decode cX2_keep 20 = .ok (.getfield 79, 3) := by decide +kernel
theorem dX2_keep_23 : decode cX2_keep 23 = .ok (.ireturn, 1) := by decide +kernel
theorem dX2_restore_0 : decode cX2_restore 0 = .ok (.aload_n 0, 1) := by decide +kernel
theorem dX2_restore_1 : decode cX2_restore 1 = .ok (.getfield 118, 3) := by decide +kernel
theorem dX2_restore_4 : decode cX2_restore 4 = .ok (.ifCond .ne 6, 3) := by decide +kernel
theorem dX2_restore_7 : decode cX2_restore 7 = .ok (.bipush (-5), 2) := by decide +kernel
theorem dX2_restore_9 : decode cX2_restore 9 = .ok (.ireturn, 1) := by decide +kernel
theorem dX2_restore_10 : decode cX2_restore 10 = .ok (.aload_n 0, 1) := by decide +kernel
theorem dX2_restore_11 : decode cX2_restore 11 = .ok (.invokevirtual 41, 3) := by decide +kernel
theorem dX2_restore_14 : decode cX2_restore 14 = .ok (.aload_n 0, 1) := by decide +kernel
theorem dX2_restore_15 : decode cX2_restore 15 = .ok (.getfield 10, 3) := by decide +kernel
theorem dX2_restore_18 : decode cX2_restore 18 = .ok (.aload_n 0, 1) := by decide +kernel
theorem dX2_restore_19 : decode cX2_restore 19 = .ok (.getfield 16, 3) := by decide +kernel
theorem dX2_restore_22 : decode cX2_restore 22 = .ok (.invokevirtual 114, 3) := by decide +kernel
theorem dX2_restore_25 : decode cX2_restore 25 = .ok (.aload_n 0, 1) := by decide +kernel
theorem dX2_restore_26 : decode cX2_restore 26 = .ok (.getfield 10, 3) := by decide +kernel
theorem dX2_restore_29 : decode cX2_restore 29 = .ok (.getfield 79, 3) := by decide +kernel
theorem dX2_restore_32 : decode cX2_restore 32 = .ok (.ireturn, 1) := by decide +kernel
theorem dX2_path_0 : decode cX2_path 0 = .ok (.aload_n 0, 1) := by decide +kernel
theorem dX2_path_1 : decode cX2_path 1 = .ok (.iload_n 1, 1) := by decide +kernel
theorem dX2_path_2 : decode cX2_path 2 = .ok (.invokevirtual 48, 3) := by decide +kernel
theorem dX2_path_5 : decode cX2_path 5 = .ok (.ifCond .ne 5, 3) := by decide +kernel
theorem dX2_path_8 : decode cX2_path 8 = .ok (.iconst (-1), 1) := by decide +kernel
theorem dX2_path_9 : decode cX2_path 9 = .ok (.ireturn, 1) := by decide +kernel
theorem dX2_path_10 : decode cX2_path 10 = .ok (.iload_n 2, 1) := by decide +kernel
theorem dX2_path_11 : decode cX2_path 11 = .ok (.tableswitch 87 0 4 #[33, 43, 52, 68, 78], 33) := by decide +kernel
theorem dX2_path_44 : decode cX2_path 44 = .ok (.aload_n 0, 1) := by decide +kernel
theorem dX2_path_45 : decode cX2_path 45 = .ok (.getfield 10, 3) := by decide +kernel
theorem dX2_path_48 : decode cX2_path 48 = .ok (.getfield 44, 3) := by decide +kernel
theorem dX2_path_51 : decode cX2_path 51 = .ok (.iload_n 1, 1) := by decide +kernel
theorem dX2_path_52 : decode cX2_path 52 = .ok (.iaload, 1) := by decide +kernel
theorem dX2_path_53 : decode cX2_path 53 = .ok (.ireturn, 1) := by decide +kernel
theorem dX2_path_54 : decode cX2_path 54 = .ok (.aload_n 0, 1) := by decide +kernel
theorem dX2_path_55 : decode cX2_path 55 = .ok (.getfield 10, 3) := by decide +kernel
theorem dX2_path_58 : decode cX2_path 58 = .ok (.iload_n 1, 1) := by decide +kernel
theorem dX2_path_59 : decode cX2_path 59 = .ok (.invokevirtual 121, 3) := by decide +kernel
theorem dX2_path_62 : decode cX2_path 62 = .ok (.ireturn, 1) := by decide +kernel
theorem dX2_path_63 : decode cX2_path 63 = .ok (.aload_n 0, 1) := by decide +kernel
theorem dX2_path_64 : decode cX2_path 64 = .ok (.getfield 10, 3) := by decide +kernel
theorem dX2_path_67 : decode cX2_path 67 = .ok (.aload_n 0, 1) := by decide +kernel
theorem dX2_path_68 : decode cX2_path 68 = .ok (.getfield 10, 3) := by decide +kernel
theorem dX2_path_71 : decode cX2_path 71 = .ok (.iload_n 1, 1) := by decide +kernel
theorem dX2_path_72 : decode cX2_path 72 = .ok (.invokevirtual 121, 3) := by decide +kernel
theorem dX2_path_75 : decode cX2_path 75 = .ok (.invokevirtual 124, 3) := by decide +kernel
theorem dX2_path_78 : decode cX2_path 78 = .ok (.ireturn, 1) := by decide +kernel
theorem dX2_path_79 : decode cX2_path 79 = .ok (.aload_n 0, 1) := by decide +kernel
theorem dX2_path_80 : decode cX2_path 80 = .ok (.getfield 10, 3) := by decide +kernel
theorem dX2_path_83 : decode cX2_path 83 = .ok (.getfield 127, 3) := by decide +kernel
theorem dX2_path_86 : decode cX2_path 86 = .ok (.iload_n 1, 1) := by decide +kernel
theorem dX2_path_87 : decode cX2_path 87 = .ok (.iaload, 1) := by decide +kernel
theorem dX2_path_88 : decode cX2_path 88 = .ok (.ireturn, 1) := by decide +kernel
theorem dX2_path_89 : decode cX2_path 89 = .ok (.aload_n 0, 1) := by decide +kernel
theorem dX2_path_90 : decode cX2_path 90 = .ok (.getfield 10, 3) := by decide +kernel
theorem dX2_path_93 : decode cX2_path 93 = .ok (.iload_n 1, 1) := by decide +kernel
theorem dX2_path_94 : decode cX2_path 94 = .ok (.invokevirtual 130, 3) := by decide +kernel
theorem dX2_path_97 : decode cX2_path 97 = .ok (.ireturn, 1) := by decide +kernel
theorem dX2_path_98 : decode cX2_path 98 = .ok (.bipush (-2), 2) := by decide +kernel
theorem dX2_path_100 : decode cX2_path 100 = .ok (.ireturn, 1) := by decide +kernel
theorem dX2_delay_0 : decode cX2_delay 0 = .ok (.aload_n 0, 1) := by decide +kernel
theorem dX2_delay_1 : decode cX2_delay 1 = .ok (.iload_n 1, 1) := by decide +kernel
theorem dX2_delay_2 : decode cX2_delay 2 = .ok (.invokevirtual 48, 3) := by decide +kernel
theorem dX2_delay_5 : decode cX2_delay 5 = .ok (.ifCond .ne 5, 3) := by decide +kernel
theorem dX2_delay_8 : decode cX2_delay 8 = .ok (.iconst (-1), 1) := by decide +kernel
theorem dX2_delay_9 : decode cX2_delay 9 = .ok (.ireturn, 1) := by decide +kernel
theorem dX2_delay_10 : decode cX2_delay 10 = .ok (.iload_n 2, 1) := by decide +kernel
theorem dX2_delay_11 : decode cX2_delay 11 = .ok (.invokestatic 76, 3) := by decide +kernel
theorem dX2_delay_14 : decode cX2_delay 14 = .ok (.ifCond .eq 14, 3) := by decide +kernel
theorem dX2_delay_17 : decode cX2_delay 17 = .ok (.iload_n 3, 1) := by decide +kernel
theorem dX2_delay_18 : decode cX2_delay 18 = .ok (.bipush 20, 2) := by decide +kernel
theorem dX2_delay_20 : decode cX2_delay 20 = .ok (.bipush 120, 2) := by decide +kernel
theorem dX2_delay_22 : decode cX2_delay 22 = .ok (.invokestatic 66, 3) := by decide +kernel
theorem dX2_delay_25 : decode cX2_delay 25 = .ok (.ifCond .ne 6, 3) := by decide +kernel
theorem dX2_delay_28 : decode cX2_delay 28 = .ok (.bipush (-2), 2) := by decide +kernel
theorem dX2_delay_30 : decode cX2_delay 30 = .ok (.ireturn, 1) := by decide +kernel
theorem dX2_delay_31 : decode cX2_delay 31 = .ok (.aload_n 0, 1) := by decide +kernel
theorem dX2_delay_32 : decode cX2_delay 32 = .ok (.getfield 10, 3) := by decide +kernel
theorem dX2_delay_35 : decode cX2_delay 35 = .ok (.getfield 44, 3) := by decide +kernel
theorem dX2_delay_38 : decode cX2_delay 38 = .ok (.iload_n 1, 1) := by decide +kernel
theorem dX2_delay_39 : decode cX2_delay 39 = .ok (.iaload, 1) := by decide +kernel
theorem dX2_delay_40 : decode cX2_delay 40 = .ok (.iload_n 2, 1) := by decide +kernel
theorem dX2_delay_41 : decode cX2_delay 41 = .ok (.iload_n 3, 1) := by decide +kernel
theorem dX2_delay_42 : decode cX2_delay 42 = .ok (.invokestatic 133, 3) := by decide +kernel
theorem dX2_delay_45 : decode cX2_delay 45 = .ok (.ireturn, 1) := by decide +kernel
theorem dX2_workload_0 : decode cX2_workload 0 = .ok (.iload_n 1, 1) := by decide +kernel
theorem dX2_workload_1 : decode cX2_workload 1 = .ok (.ifCond .ge 6, 3) := by decide +kernel
theorem dX2_workload_4 : decode cX2_workload 4 = .ok (.bipush (-2), 2) := by decide +kernel
theorem dX2_workload_6 : decode cX2_workload 6 = .ok (.ireturn, 1) := by decide +kernel
theorem dX2_workload_7 : decode cX2_workload 7 = .ok (.iload_n 1, 1) := by decide +kernel
theorem dX2_workload_8 : decode cX2_workload 8 = .ok (.aload_n 0, 1) := by decide +kernel
theorem dX2_workload_9 : decode cX2_workload 9 = .ok (.getfield 10, 3) := by decide +kernel
theorem dX2_workload_12 : decode cX2_workload 12 = .ok (.getfield 137, 3) := by decide +kernel
theorem dX2_workload_15 : decode cX2_workload 15 = .ok (.if_icmp .ge 15, 3) := by decide +kernel
theorem dX2_workload_18 : decode cX2_workload 18 = .ok (.aload_n 0, 1) := by decide +kernel
theorem dX2_workload_19 : decode cX2_workload 19 = .ok (.getfield 10, 3) := by decide +kernel
theorem dX2_workload_22 : decode cX2_workload 22 = .ok (.getfield 61, 3) := by decide +kernel
theorem dX2_workload_25 : decode cX2_workload 25 = .ok (.iload_n 1, 1) := by decide +kernel
theorem dX2_workload_26 : decode cX2_workload 26 = .ok (.iaload, 1) := by decide +kernel
theorem dX2_workload_27 : decode cX2_workload 27 = .ok (.goto 5, 3) := by decide +kernel
theorem dX2_workload_30 : decode cX2_workload 30 = .ok (.bipush (-5), 2) := by decide +kernel
theorem dX2_workload_32 : decode cX2_workload 32 = .ok (.ireturn, 1) := by decide +kernel
theorem dX2_least_0 : decode cX2_least 0 = .ok (.aload_n 0, 1) := by decide +kernel
theorem dX2_least_1 : decode cX2_least 1 = .ok (.getfield 10, 3) := by decide +kernel
theorem dX2_least_4 : decode cX2_least 4 = .ok (.invokevirtual 138, 3) := by decide +kernel
theorem dX2_least_7 : decode cX2_least 7 = .ok (.istore_n 2, 1) := by decide +kernel
theorem dX2_least_8 : decode cX2_least 8 = .ok (.iload_n 1, 1) := by decide +kernel
theorem dX2_least_9 : decode cX2_least 9 = .ok (.ifCond .eq 7, 3) := by decide +kernel
theorem dX2_least_12 : decode cX2_least 12 = .ok (.iconst 1, 1) := by decide +kernel
theorem dX2_least_13 : decode cX2_least 13 = .ok (.goto 4, 3) := by decide +kernel
theorem dX2_least_16 : decode cX2_least 16 = .ok (.iconst 0, 1) := by decide +kernel
theorem dX2_least_17 : decode cX2_least 17 = .ok (.istore_n 3, 1) := by decide +kernel
theorem dX2_least_18 : decode cX2_least 18 = .ok (.sipush 500, 3) := by decide +kernel
theorem dX2_least_21 : decode cX2_least 21 = .ok (.istore 4, 2) := by decide +kernel
theorem dX2_least_23 : decode cX2_least 23 = .ok (.iload 4, 2) := by decide +kernel
theorem dX2_least_25 : decode cX2_least 25 = .ok (.sipush 1200, 3) := by decide +kernel
theorem dX2_least_28 : decode cX2_least 28 = .ok (.if_icmp .gt 36, 3) := by decide +kernel
theorem dX2_least_31 : decode cX2_least 31 = .ok (.aload_n 0, 1) := by decide +kernel
theorem dX2_least_32 : decode cX2_least 32 = .ok (.getfield 10, 3) := by decide +kernel
theorem dX2_least_35 : decode cX2_least 35 = .ok (.iload_n 2, 1) := by decide +kernel
theorem dX2_least_36 : decode cX2_least 36 = .ok (.iload 4, 2) := by decide +kernel
theorem dX2_least_38 : decode cX2_least 38 = .ok (.aload_n 0, 1) := by decide +kernel
theorem dX2_least_39 : decode cX2_least 39 = .ok (.getfield 10, 3) := by decide +kernel
theorem dX2_least_42 : decode cX2_least 42 = .ok (.getfield 141, 3) := by decide +kernel
theorem dX2_least_45 : decode cX2_least 45 = .ok (.invokestatic 133, 3) := by decide +kernel
theorem dX2_least_48 : decode cX2_least 48 = .ok (.invokevirtual 124, 3) := by decide +kernel
theorem dX2_least_51 : decode cX2_least 51 = .ok (.iload_n 3, 1) := by decide +kernel
theorem dX2_least_52 : decode cX2_least 52 = .ok (.if_icmp .gt 6, 3) := by decide +kernel
theorem dX2_least_55 : decode cX2_least 55 = .ok (.iload 4, 2) := by decide +kernel
theorem dX2_least_57 : decode cX2_least 57 = .ok (.ireturn, 1) := by decide +kernel
theorem dX2_least_58 : decode cX2_least 58 = .ok (.iinc 4 1, 3) := by decide +kernel
theorem dX2_least_61 : decode cX2_least 61 = .ok (.goto (-38), 3) := by decide +kernel
theorem dX2_least_64 : decode cX2_least 64 = .ok (.bipush (-5), 2) := by decide +kernel
theorem dX2_least_66 : decode cX2_least 66 = .ok (.ireturn, 1) := by decide +kernel
theorem dX2_would_0 : decode cX2_would 0 = .ok (.iload_n 1, 1) := by decide +kernel
theorem dX2_would_1 : decode cX2_would 1 = .ok (.invokestatic 76, 3) := by decide +kernel
theorem dX2_would_4 : decode cX2_would 4 = .ok (.ifCond .eq 23, 3) := by decide +kernel
theorem dX2_would_7 : decode cX2_would 7 = .ok (.iload_n 2, 1) := by decide +kernel
theorem dX2_would_8 : decode cX2_would 8 = .ok (.iconst 1, 1) := by decide +kernel
theorem dX2_would_9 : decode cX2_would 9 = .ok (.sipush 500, 3) := by decide +kernel
theorem dX2_would_12 : decode cX2_would 12 = .ok (.invokestatic 66, 3) := by decide +kernel
theorem dX2_would_15 : decode cX2_would 15 = .ok (.ifCond .eq 12, 3) := by decide +kernel
theorem dX2_would_18 : decode cX2_would 18 = .ok (.iload_n 3, 1) := by decide +kernel
theorem dX2_would_19 : decode cX2_would 19 = .ok (.iconst 0, 1) := by decide +kernel
theorem dX2_would_20 : decode cX2_would 20 = .ok (.iconst 4, 1) := by decide +kernel
theorem dX2_would_21 : decode cX2_would 21 = .ok (.invokestatic 66, 3) := by decide +kernel
theorem dX2_would_24 : decode cX2_would 24 = .ok (.ifCond .ne 6, 3) := by decide +kernel
theorem dX2_would_27 : decode cX2_would 27 = .ok (.bipush (-2), 2) := by decide +kernel
theorem dX2_would_29 : decode cX2_would 29 = .ok (.ireturn, 1) := by decide +kernel
theorem dX2_would_30 : decode cX2_would 30 = .ok (.aload_n 0, 1) := by decide +kernel
theorem dX2_would_31 : decode cX2_would 31 = .ok (.iload_n 1, 1) := by decide +kernel
theorem dX2_would_32 : decode cX2_would 32 = .ok (.iload_n 2, 1) := by decide +kernel
theorem dX2_would_33 : decode cX2_would 33 = .ok (.invokevirtual 144, 3) := by decide +kernel
theorem dX2_would_36 : decode cX2_would 36 = .ok (.iload_n 3, 1) := by decide +kernel
theorem dX2_would_37 : decode cX2_would 37 = .ok (.tableswitch 96 0 3 #[31, 47, 63, 80], 31) := by decide +kernel
theorem dX2_would_68 : decode cX2_would 68 = .ok (.aload_n 0, 1) := by decide +kernel
theorem dX2_would_69 : decode cX2_would 69 = .ok (.getfield 19, 3) := by decide +kernel
theorem dX2_would_72 : decode cX2_would 72 = .ok (.getfield 98, 3) := by decide +kernel
theorem dX2_would_75 : decode cX2_would 75 = .ok (.aload_n 0, 1) := by decide +kernel
theorem dX2_would_76 : decode cX2_would 76 = .ok (.getfield 10, 3) := by decide +kernel
theorem dX2_would_79 : decode cX2_would 79 = .ok (.getfield 98, 3) := by decide +kernel
theorem dX2_would_82 : decode cX2_would 82 = .ok (.isub, 1) := by decide +kernel
theorem dX2_would_83 : decode cX2_would 83 = .ok (.ireturn, 1) := by decide +kernel
theorem dX2_would_84 : decode cX2_would 84 = .ok (.aload_n 0, 1) := by decide +kernel
theorem dX2_would_85 : decode cX2_would 85 = .ok (.getfield 19, 3) := by decide +kernel
theorem dX2_would_88 : decode cX2_would 88 = .ok (.getfield 148, 3) := by decide +kernel
theorem dX2_would_91 : decode cX2_would 91 = .ok (.aload_n 0, 1) := by decide +kernel
theorem dX2_would_92 : decode cX2_would 92 = .ok (.getfield 10, 3) := by decide +kernel
theorem dX2_would_95 : decode cX2_would 95 = .ok (.getfield 148, 3) := by decide +kernel
theorem dX2_would_98 : decode cX2_would 98 = .ok (.isub, 1) := by decide +kernel
theorem dX2_would_99 : decode cX2_would 99 = .ok (.ireturn, 1) := by decide +kernel
theorem dX2_would_100 : decode cX2_would 100 = .ok (.aload_n 0, 1) := by decide +kernel
theorem dX2_would_101 : decode cX2_would 101 = .ok (.getfield 19, 3) := by decide +kernel
theorem dX2_would_104 : decode cX2_would 104 = .ok (.getfield 151, 3) := by decide +kernel
theorem dX2_would_107 : decode cX2_would 107 = .ok (.aload_n 0, 1) := by decide +kernel
theorem dX2_would_108 : decode cX2_would 108 = .ok (.getfield 10, 3) := by decide +kernel
theorem dX2_would_111 : decode cX2_would 111 = .ok (.getfield 151, 3) := by decide +kernel
theorem dX2_would_114 : decode cX2_would 114 = .ok (.lsub, 1) := by decide +kernel
theorem dX2_would_115 : decode cX2_would 115 = .ok (.l2i, 1) := by decide +kernel
theorem dX2_would_116 : decode cX2_would 116 = .ok (.ireturn, 1) := by decide +kernel
theorem dX2_would_117 : decode cX2_would 117 = .ok (.aload_n 0, 1) := by decide +kernel
theorem dX2_would_118 : decode cX2_would 118 = .ok (.getfield 19, 3) := by decide +kernel
theorem dX2_would_121 : decode cX2_would 121 = .ok (.getfield 155, 3) := by decide +kernel
theorem dX2_would_124 : decode cX2_would 124 = .ok (.aload_n 0, 1) := by decide +kernel
theorem dX2_would_125 : decode cX2_would 125 = .ok (.getfield 10, 3) := by decide +kernel
theorem dX2_would_128 : decode cX2_would 128 = .ok (.getfield 155, 3) := by decide +kernel
theorem dX2_would_131 : decode cX2_would 131 = .ok (.isub, 1) := by decide +kernel
theorem dX2_would_132 : decode cX2_would 132 = .ok (.ireturn, 1) := by decide +kernel
theorem dX2_would_133 : decode cX2_would 133 = .ok (.aload_n 0, 1) := by decide +kernel
theorem dX2_would_134 : decode cX2_would 134 = .ok (.getfield 19, 3) := by decide +kernel
theorem dX2_would_137 : decode cX2_would 137 = .ok (.getfield 141, 3) := by decide +kernel
theorem dX2_would_140 : decode cX2_would 140 = .ok (.ireturn, 1) := by decide +kernel
theorem dX2_best_0 : decode cX2_best 0 = .ok (.iload_n 1, 1) := by decide +kernel
theorem dX2_best_1 : decode cX2_best 1 = .ok (.iconst 1, 1) := by decide +kernel
theorem dX2_best_2 : decode cX2_best 2 = .ok (.sipush 200, 3) := by decide +kernel
theorem dX2_best_5 : decode cX2_best 5 = .ok (.invokestatic 66, 3) := by decide +kernel
theorem dX2_best_8 : decode cX2_best 8 = .ok (.ifCond .ne 6, 3) := by decide +kernel
theorem dX2_best_11 : decode cX2_best 11 = .ok (.bipush (-2), 2) := by decide +kernel
theorem dX2_best_13 : decode cX2_best 13 = .ok (.ireturn, 1) := by decide +kernel
theorem dX2_best_14 : decode cX2_best 14 = .ok (.bipush (-5), 2) := by decide +kernel
theorem dX2_best_16 : decode cX2_best 16 = .ok (.istore_n 2, 1) := by decide +kernel
theorem dX2_best_17 : decode cX2_best 17 = .ok (.lconst 0, 1) := by decide +kernel
theorem dX2_best_18 : decode cX2_best 18 = .ok (.lstore_n 3, 1) := by decide +kernel
theorem dX2_best_19 : decode cX2_best 19 = .ok (.sipush 500, 3) := by decide +kernel
theorem dX2_best_22 : decode cX2_best 22 = .ok (.istore 5, 2) := by decide +kernel
theorem dX2_best_24 : decode cX2_best 24 = .ok (.iload 5, 2) := by decide +kernel
theorem dX2_best_26 : decode cX2_best 26 = .ok (.sipush 1200, 3) := by decide +kernel
theorem dX2_best_29 : decode cX2_best 29 = .ok (.if_icmp .gt 69, 3) := by decide +kernel
theorem dX2_best_32 : decode cX2_best 32 = .ok (.aload_n 0, 1) := by decide +kernel
theorem dX2_best_33 : decode cX2_best 33 = .ok (.iload 5, 2) := by decide +kernel
theorem dX2_best_35 : decode cX2_best 35 = .ok (.iload_n 1, 1) := by decide +kernel
theorem dX2_best_36 : decode cX2_best 36 = .ok (.invokevirtual 144, 3) := by decide +kernel
theorem dX2_best_39 : decode cX2_best 39 = .ok (.aload_n 0, 1) := by decide +kernel
theorem dX2_best_40 : decode cX2_best 40 = .ok (.getfield 19, 3) := by decide +kernel
theorem dX2_best_43 : decode cX2_best 43 = .ok (.getfield 151, 3) := by decide +kernel
theorem dX2_best_46 : decode cX2_best 46 = .ok (.aload_n 0, 1) := by decide +kernel
theorem dX2_best_47 : decode cX2_best 47 = .ok (.getfield 10, 3) := by decide +kernel
theorem dX2_best_50 : decode cX2_best 50 = .ok (.getfield 151, 3) := by decide +kernel
theorem dX2_best_53 : decode cX2_best 53 = .ok (.lsub, 1) := by decide +kernel
theorem dX2_best_54 : decode cX2_best 54 = .ok (.lstore 6, 2) := by decide +kernel
theorem dX2_best_56 : decode cX2_best 56 = .ok (.aload_n 0, 1) := by decide +kernel
theorem dX2_best_57 : decode cX2_best 57 = .ok (.getfield 19, 3) := by decide +kernel
theorem dX2_best_60 : decode cX2_best 60 = .ok (.getfield 148, 3) := by decide +kernel
theorem dX2_best_63 : decode cX2_best 63 = .ok (.aload_n 0, 1) := by decide +kernel
theorem dX2_best_64 : decode cX2_best 64 = .ok (.getfield 10, 3) := by decide +kernel
theorem dX2_best_67 : decode cX2_best 67 = .ok (.getfield 148, 3) := by decide +kernel
theorem dX2_best_70 : decode cX2_best 70 = .ok (.if_icmp .ne 22, 3) := by decide +kernel
theorem dX2_best_73 : decode cX2_best 73 = .ok (.iload_n 2, 1) := by decide +kernel
theorem dX2_best_74 : decode cX2_best 74 = .ok (.bipush (-5), 2) := by decide +kernel
theorem dX2_best_76 : decode cX2_best 76 = .ok (.if_icmp .eq 10, 3) := by decide +kernel
theorem dX2_best_79 : decode cX2_best 79 = .ok (.lload 6, 2) := by decide +kernel
theorem dX2_best_81 : decode cX2_best 81 = .ok (.lload_n 3, 1) := by decide +kernel
theorem dX2_best_82 : decode cX2_best 82 = .ok (.lcmp, 1) := by decide +kernel
theorem dX2_best_83 : decode cX2_best 83 = .ok (.ifCond .ge 9, 3) := by decide +kernel
theorem dX2_best_86 : decode cX2_best 86 = .ok (.iload 5, 2) := by decide +kernel
theorem dX2_best_88 : decode cX2_best 88 = .ok (.istore_n 2, 1) := by decide +kernel
theorem dX2_best_89 : decode cX2_best 89 = .ok (.lload 6, 2) := by decide +kernel
theorem dX2_best_91 : decode cX2_best 91 = .ok (.lstore_n 3, 1) := by decide +kernel
theorem dX2_best_92 : decode cX2_best 92 = .ok (.iinc 5 50, 3) := by decide +kernel
theorem dX2_best_95 : decode cX2_best 95 = .ok (.goto (-71), 3) := by decide +kernel
theorem dX2_best_98 : decode cX2_best 98 = .ok (.iload_n 2, 1) := by decide +kernel
theorem dX2_best_99 : decode cX2_best 99 = .ok (.ireturn, 1) := by decide +kernel
theorem dX2_count_0 : decode cX2_count 0 = .ok (.iload_n 1, 1) := by decide +kernel
theorem dX2_count_1 : decode cX2_count 1 = .ok (.bipush 17, 2) := by decide +kernel
theorem dX2_count_3 : decode cX2_count 3 = .ok (.bipush 23, 2) := by decide +kernel
theorem dX2_count_5 : decode cX2_count 5 = .ok (.invokestatic 66, 3) := by decide +kernel
theorem dX2_count_8 : decode cX2_count 8 = .ok (.ifCond .eq 16, 3) := by decide +kernel
theorem dX2_count_11 : decode cX2_count 11 = .ok (.aload_n 0, 1) := by decide +kernel
theorem dX2_count_12 : decode cX2_count 12 = .ok (.getfield 10, 3) := by decide +kernel
theorem dX2_count_15 : decode cX2_count 15 = .ok (.getfield 95, 3) := by decide +kernel
theorem dX2_count_18 : decode cX2_count 18 = .ok (.iload_n 1, 1) := by decide +kernel
theorem dX2_count_19 : decode cX2_count 19 = .ok (.bipush 17, 2) := by decide +kernel
theorem dX2_count_21 : decode cX2_count 21 = .ok (.isub, 1) := by decide +kernel
theorem dX2_count_22 : decode cX2_count 22 = .ok (.iaload, 1) := by decide +kernel
theorem dX2_count_23 : decode cX2_count 23 = .ok (.ireturn, 1) := by decide +kernel
theorem dX2_count_24 : decode cX2_count 24 = .ok (.iload_n 1, 1) := by decide +kernel
theorem dX2_count_25 : decode cX2_count 25 = .ok (.tableswitch 283 0 25 #[119, 127, 135, 151, 159, 167, 175, 183, 196, 204, 212, 220, 228, 236, 245, 254, 262, 283, 283, 283, 283, 283, 283, 283, 270, 275], 119) := by decide +kernel
theorem dX2_count_144 : decode cX2_count 144 = .ok (.aload_n 0, 1) := by decide +kernel
theorem dX2_count_145 : decode cX2_count 145 = .ok (.getfield 10, 3) := by decide +kernel
theorem dX2_count_148 : decode cX2_count 148 = .ok (.getfield 79, 3) := by decide +kernel
theorem dX2_count_151 : decode cX2_count 151 = .ok (.ireturn, 1) := by decide +kernel
theorem dX2_count_152 : decode cX2_count 152 = .ok (.aload_n 0, 1) := by decide +kernel
theorem dX2_count_153 : decode cX2_count 153 = .ok (.getfield 10, 3) := by decide +kernel
theorem dX2_count_156 : decode cX2_count 156 = .ok (.getfield 141, 3) := by decide +kernel
theorem dX2_count_159 : decode cX2_count 159 = .ok (.ireturn, 1) := by decide +kernel
theorem dX2_count_160 : decode cX2_count 160 = .ok (.aload_n 0, 1) := by decide +kernel
theorem dX2_count_161 : decode cX2_count 161 = .ok (.getfield 10, 3) := by decide +kernel
theorem dX2_count_164 : decode cX2_count 164 = .ok (.getfield 82, 3) := by decide +kernel
theorem dX2_count_167 : decode cX2_count 167 = .ok (.ifCond .eq 7, 3) := by decide +kernel
theorem dX2_count_170 : decode cX2_count 170 = .ok (.iconst 1, 1) := by decide +kernel
theorem dX2_count_171 : decode cX2_count 171 = .ok (.goto 4, 3) := by decide +kernel
theorem dX2_count_174 : decode cX2_count 174 = .ok (.iconst 0, 1) := by decide +kernel
theorem dX2_count_175 : decode cX2_count 175 = .ok (.ireturn, 1) := by decide +kernel
theorem dX2_count_176 : decode cX2_count 176 = .ok (.aload_n 0, 1) := by decide +kernel
theorem dX2_count_177 : decode cX2_count 177 = .ok (.getfield 10, 3) := by decide +kernel
theorem dX2_count_180 : decode cX2_count 180 = .ok (.getfield 155, 3) := by decide +kernel
theorem dX2_count_183 : decode cX2_count 183 = .ok (.ireturn, 1) := by decide +kernel
theorem dX2_count_184 : decode cX2_count 184 = .ok (.aload_n 0, 1) := by decide +kernel
theorem dX2_count_185 : decode cX2_count 185 = .ok (.getfield 10, 3) := by decide +kernel
theorem dX2_count_188 : decode cX2_count 188 = .ok (.getfield 158, 3) := by decide +kernel
theorem dX2_count_191 : decode cX2_count 191 = .ok (.ireturn, 1) := by decide +kernel
theorem dX2_count_192 : decode cX2_count 192 = .ok (.aload_n 0, 1) := by decide +kernel
theorem dX2_count_193 : decode cX2_count 193 = .ok (.getfield 10, 3) := by decide +kernel
theorem dX2_count_196 : decode cX2_count 196 = .ok (.getfield 98, 3) := by decide +kernel
theorem dX2_count_199 : decode cX2_count 199 = .ok (.ireturn, 1) := by decide +kernel
theorem dX2_count_200 : decode cX2_count 200 = .ok (.aload_n 0, 1) := by decide +kernel
theorem dX2_count_201 : decode cX2_count 201 = .ok (.getfield 10, 3) := by decide +kernel
theorem dX2_count_204 : decode cX2_count 204 = .ok (.getfield 148, 3) := by decide +kernel
theorem dX2_count_207 : decode cX2_count 207 = .ok (.ireturn, 1) := by decide +kernel
theorem dX2_count_208 : decode cX2_count 208 = .ok (.aload_n 0, 1) := by decide +kernel
theorem dX2_count_209 : decode cX2_count 209 = .ok (.getfield 10, 3) := by decide +kernel
theorem dX2_count_212 : decode cX2_count 212 = .ok (.getfield 151, 3) := by decide +kernel
theorem dX2_count_215 : decode cX2_count 215 = .ok (.ldc2_w 161, 3) := by decide +kernel
theorem dX2_count_218 : decode cX2_count 218 = .ok (.ldiv, 1) := by decide +kernel
theorem dX2_count_219 : decode cX2_count 219 = .ok (.l2i, 1) := by decide +kernel
theorem dX2_count_220 : decode cX2_count 220 = .ok (.ireturn, 1) := by decide +kernel
theorem dX2_count_221 : decode cX2_count 221 = .ok (.aload_n 0, 1) := by decide +kernel
theorem dX2_count_222 : decode cX2_count 222 = .ok (.getfield 10, 3) := by decide +kernel
theorem dX2_count_225 : decode cX2_count 225 = .ok (.getfield 163, 3) := by decide +kernel
theorem dX2_count_228 : decode cX2_count 228 = .ok (.ireturn, 1) := by decide +kernel
theorem dX2_count_229 : decode cX2_count 229 = .ok (.aload_n 0, 1) := by decide +kernel
theorem dX2_count_230 : decode cX2_count 230 = .ok (.getfield 10, 3) := by decide +kernel
theorem dX2_count_233 : decode cX2_count 233 = .ok (.getfield 166, 3) := by decide +kernel
theorem dX2_count_236 : decode cX2_count 236 = .ok (.ireturn, 1) := by decide +kernel
theorem dX2_count_237 : decode cX2_count 237 = .ok (.aload_n 0, 1) := by decide +kernel
theorem dX2_count_238 : decode cX2_count 238 = .ok (.getfield 10, 3) := by decide +kernel
theorem dX2_count_241 : decode cX2_count 241 = .ok (.getfield 137, 3) := by decide +kernel
theorem dX2_count_244 : decode cX2_count 244 = .ok (.ireturn, 1) := by decide +kernel
theorem dX2_count_245 : decode cX2_count 245 = .ok (.aload_n 0, 1) := by decide +kernel
theorem dX2_count_246 : decode cX2_count 246 = .ok (.getfield 10, 3) := by decide +kernel
theorem dX2_count_249 : decode cX2_count 249 = .ok (.getfield 169, 3) := by decide +kernel
theorem dX2_count_252 : decode cX2_count 252 = .ok (.ireturn, 1) := by decide +kernel
theorem dX2_count_253 : decode cX2_count 253 = .ok (.aload_n 0, 1) := by decide +kernel
theorem dX2_count_254 : decode cX2_count 254 = .ok (.getfield 10, 3) := by decide +kernel
theorem dX2_count_257 : decode cX2_count 257 = .ok (.getfield 37, 3) := by decide +kernel
theorem dX2_count_260 : decode cX2_count 260 = .ok (.ireturn, 1) := by decide +kernel
theorem dX2_count_261 : decode cX2_count 261 = .ok (.aload_n 0, 1) := by decide +kernel
theorem dX2_count_262 : decode cX2_count 262 = .ok (.getfield 10, 3) := by decide +kernel
theorem dX2_count_265 : decode cX2_count 265 = .ok (.iconst 1, 1) := by decide +kernel
theorem dX2_count_266 : decode cX2_count 266 = .ok (.invokevirtual 172, 3) := by decide +kernel
theorem dX2_count_269 : decode cX2_count 269 = .ok (.ireturn, 1) := by decide +kernel
theorem dX2_count_270 : decode cX2_count 270 = .ok (.aload_n 0, 1) := by decide +kernel
theorem dX2_count_271 : decode cX2_count 271 = .ok (.getfield 10, 3) := by decide +kernel
theorem dX2_count_274 : decode cX2_count 274 = .ok (.iconst 2, 1) := by decide +kernel
theorem dX2_count_275 : decode cX2_count 275 = .ok (.invokevirtual 172, 3) := by decide +kernel
theorem dX2_count_278 : decode cX2_count 278 = .ok (.ireturn, 1) := by decide +kernel
theorem dX2_count_279 : decode cX2_count 279 = .ok (.aload_n 0, 1) := by decide +kernel
theorem dX2_count_280 : decode cX2_count 280 = .ok (.getfield 10, 3) := by decide +kernel
theorem dX2_count_283 : decode cX2_count 283 = .ok (.getfield 175, 3) := by decide +kernel
theorem dX2_count_286 : decode cX2_count 286 = .ok (.ireturn, 1) := by decide +kernel
theorem dX2_count_287 : decode cX2_count 287 = .ok (.aload_n 0, 1) := by decide +kernel
theorem dX2_count_288 : decode cX2_count 288 = .ok (.getfield 10, 3) := by decide +kernel
theorem dX2_count_291 : decode cX2_count 291 = .ok (.getfield 178, 3) := by decide +kernel
theorem dX2_count_294 : decode cX2_count 294 = .ok (.ireturn, 1) := by decide +kernel
theorem dX2_count_295 : decode cX2_count 295 = .ok (.aload_n 0, 1) := by decide +kernel
theorem dX2_count_296 : decode cX2_count 296 = .ok (.getfield 111, 3) := by decide +kernel
theorem dX2_count_299 : decode cX2_count 299 = .ok (.ireturn, 1) := by decide +kernel
theorem dX2_count_300 : decode cX2_count 300 = .ok (.aload_n 0, 1) := by decide +kernel
theorem dX2_count_301 : decode cX2_count 301 = .ok (.getfield 29, 3) := by decide +kernel
theorem dX2_count_304 : decode cX2_count 304 = .ok (.getfield 108, 3) := by decide +kernel
theorem dX2_count_307 : decode cX2_count 307 = .ok (.ireturn, 1) := by decide +kernel
theorem dX2_count_308 : decode cX2_count 308 = .ok (.bipush (-2), 2) := by decide +kernel
theorem dX2_count_310 : decode cX2_count 310 = .ok (.ireturn, 1) := by decide +kernel
theorem dX2_isWithin_0 : decode cX2_isWithin 0 = .ok (.iload_n 0, 1) := by decide +kernel
theorem dX2_isWithin_1 : decode cX2_isWithin 1 = .ok (.iload_n 1, 1) := by decide +kernel
theorem dX2_isWithin_2 : decode cX2_isWithin 2 = .ok (.if_icmp .lt 12, 3) := by decide +kernel
theorem dX2_isWithin_5 : decode cX2_isWithin 5 = .ok (.iload_n 0, 1) := by decide +kernel
theorem dX2_isWithin_6 : decode cX2_isWithin 6 = .ok (.iload_n 2, 1) := by decide +kernel
theorem dX2_isWithin_7 : decode cX2_isWithin 7 = .ok (.if_icmp .gt 7, 3) := by decide +kernel
theorem dX2_isWithin_10 : decode cX2_isWithin 10 = .ok (.iconst 1, 1) := by decide +kernel
theorem dX2_isWithin_11 : decode cX2_isWithin 11 = .ok (.goto 4, 3) := by decide +kernel
theorem dX2_isWithin_14 : decode cX2_isWithin 14 = .ok (.iconst 0, 1) := by decide +kernel
theorem dX2_isWithin_15 : decode cX2_isWithin 15 = .ok (.ireturn, 1) := by decide +kernel
theorem dX2_isLength_0 : decode cX2_isLength 0 = .ok (.iload_n 0, 1) := by decide +kernel
theorem dX2_isLength_1 : decode cX2_isLength 1 = .ok (.bipush 10, 2) := by decide +kernel
theorem dX2_isLength_3 : decode cX2_isLength 3 = .ok (.sipush 400, 3) := by decide +kernel
theorem dX2_isLength_6 : decode cX2_isLength 6 = .ok (.invokestatic 66, 3) := by decide +kernel
theorem dX2_isLength_9 : decode cX2_isLength 9 = .ok (.ireturn, 1) := by decide +kernel
theorem dX2_isVoltage_0 : decode cX2_isVoltage 0 = .ok (.iload_n 0, 1) := by decide +kernel
theorem dX2_isVoltage_1 : decode cX2_isVoltage 1 = .ok (.sipush 500, 3) := by decide +kernel
theorem dX2_isVoltage_4 : decode cX2_isVoltage 4 = .ok (.sipush 1200, 3) := by decide +kernel
theorem dX2_isVoltage_7 : decode cX2_isVoltage 7 = .ok (.invokestatic 66, 3) := by decide +kernel
theorem dX2_isVoltage_10 : decode cX2_isVoltage 10 = .ok (.ireturn, 1) := by decide +kernel
theorem dX2_isPath_0 : decode cX2_isPath 0 = .ok (.iload_n 1, 1) := by decide +kernel
theorem dX2_isPath_1 : decode cX2_isPath 1 = .ok (.iconst 0, 1) := by decide +kernel
theorem dX2_isPath_2 : decode cX2_isPath 2 = .ok (.aload_n 0, 1) := by decide +kernel
theorem dX2_isPath_3 : decode cX2_isPath 3 = .ok (.getfield 10, 3) := by decide +kernel
theorem dX2_isPath_6 : decode cX2_isPath 6 = .ok (.getfield 37, 3) := by decide +kernel
theorem dX2_isPath_9 : decode cX2_isPath 9 = .ok (.iconst 1, 1) := by decide +kernel
theorem dX2_isPath_10 : decode cX2_isPath 10 = .ok (.isub, 1) := by decide +kernel
theorem dX2_isPath_11 : decode cX2_isPath 11 = .ok (.invokestatic 66, 3) := by decide +kernel
theorem dX2_isPath_14 : decode cX2_isPath 14 = .ok (.ireturn, 1) := by decide +kernel
theorem dX2_recordState_0 : decode cX2_recordState 0 = .ok (.aload_n 0, 1) := by decide +kernel
theorem dX2_recordState_1 : decode cX2_recordState 1 = .ok (.getfield 111, 3) := by decide +kernel
theorem dX2_recordState_4 : decode cX2_recordState 4 = .ok (.iconst 4, 1) := by decide +kernel
theorem dX2_recordState_5 : decode cX2_recordState 5 = .ok (.if_icmp .ne 7, 3) := by decide +kernel
theorem dX2_recordState_8 : decode cX2_recordState 8 = .ok (.aload_n 0, 1) := by decide +kernel
theorem dX2_recordState_9 : decode cX2_recordState 9 = .ok (.invokevirtual 181, 3) := by decide +kernel
theorem dX2_recordState_12 : decode cX2_recordState 12 = .ok (.aload_n 0, 1) := by decide +kernel
theorem dX2_recordState_13 : decode cX2_recordState 13 = .ok (.getfield 22, 3) := by decide +kernel
theorem dX2_recordState_16 : decode cX2_recordState 16 = .ok (.aload_n 0, 1) := by decide +kernel
theorem dX2_recordState_17 : decode cX2_recordState 17 = .ok (.getfield 111, 3) := by decide +kernel
theorem dX2_recordState_20 : decode cX2_recordState 20 = .ok (.aaload, 1) := by decide +kernel
theorem dX2_recordState_21 : decode cX2_recordState 21 = .ok (.aload_n 0, 1) := by decide +kernel
theorem dX2_recordState_22 : decode cX2_recordState 22 = .ok (.getfield 10, 3) := by decide +kernel
theorem dX2_recordState_25 : decode cX2_recordState 25 = .ok (.invokevirtual 114, 3) := by decide +kernel
theorem dX2_recordState_28 : decode cX2_recordState 28 = .ok (.aload_n 0, 1) := by decide +kernel
theorem dX2_recordState_29 : decode cX2_recordState 29 = .ok (.dup, 1) := by decide +kernel
theorem dX2_recordState_30 : decode cX2_recordState 30 = .ok (.getfield 111, 3) := by decide +kernel
theorem dX2_recordState_33 : decode cX2_recordState 33 = .ok (.iconst 1, 1) := by decide +kernel
theorem dX2_recordState_34 : decode cX2_recordState 34 = .ok (.iadd, 1) := by decide +kernel
theorem dX2_recordState_35 : decode cX2_recordState 35 = .ok (.putfield 111, 3) := by decide +kernel
theorem dX2_recordState_38 : decode cX2_recordState 38 = .ok (.return_, 1) := by decide +kernel
theorem dX2_dropOldestState_0 : decode cX2_dropOldestState 0 = .ok (.aload_n 0, 1) := by decide +kernel
theorem dX2_dropOldestState_1 : decode cX2_dropOldestState 1 = .ok (.getfield 22, 3) := by decide +kernel
theorem dX2_dropOldestState_4 : decode cX2_dropOldestState 4 = .ok (.iconst 0, 1) := by decide +kernel
theorem dX2_dropOldestState_5 : decode cX2_dropOldestState 5 = .ok (.aaload, 1) := by decide +kernel
theorem dX2_dropOldestState_6 : decode cX2_dropOldestState 6 = .ok (.astore_n 1, 1) := by decide +kernel
theorem dX2_dropOldestState_7 : decode cX2_dropOldestState 7 = .ok (.iconst 1, 1) := by decide +kernel
theorem dX2_dropOldestState_8 : decode cX2_dropOldestState 8 = .ok (.istore_n 2, 1) := by decide +kernel
theorem dX2_dropOldestState_9 : decode cX2_dropOldestState 9 = .ok (.iload_n 2, 1) := by decide +kernel
theorem dX2_dropOldestState_10 : decode cX2_dropOldestState 10 = .ok (.iconst 4, 1) := by decide +kernel
theorem dX2_dropOldestState_11 : decode cX2_dropOldestState 11 = .ok (.if_icmp .ge 23, 3) := by decide +kernel
theorem dX2_dropOldestState_14 : decode cX2_dropOldestState 14 = .ok (.aload_n 0, 1) := by decide +kernel
theorem dX2_dropOldestState_15 : decode cX2_dropOldestState 15 = .ok (.getfield 22, 3) := by decide +kernel
theorem dX2_dropOldestState_18 : decode cX2_dropOldestState 18 = .ok (.iload_n 2, 1) := by decide +kernel
theorem dX2_dropOldestState_19 : decode cX2_dropOldestState 19 = .ok (.iconst 1, 1) := by decide +kernel
theorem dX2_dropOldestState_20 : decode cX2_dropOldestState 20 = .ok (.isub, 1) := by decide +kernel
theorem dX2_dropOldestState_21 : decode cX2_dropOldestState 21 = .ok (.aload_n 0, 1) := by decide +kernel
theorem dX2_dropOldestState_22 : decode cX2_dropOldestState 22 = .ok (.getfield 22, 3) := by decide +kernel
theorem dX2_dropOldestState_25 : decode cX2_dropOldestState 25 = .ok (.iload_n 2, 1) := by decide +kernel
theorem dX2_dropOldestState_26 : decode cX2_dropOldestState 26 = .ok (.aaload, 1) := by decide +kernel
theorem dX2_dropOldestState_27 : decode cX2_dropOldestState 27 = .ok (.aastore, 1) := by decide +kernel
theorem dX2_dropOldestState_28 : decode cX2_dropOldestState 28 = .ok (.iinc 2 1, 3) := by decide +kernel
theorem dX2_dropOldestState_31 : decode cX2_dropOldestState 31 = .ok (.goto (-22), 3) := by decide +kernel
theorem dX2_dropOldestState_34 : decode cX2_dropOldestState 34 = .ok (.aload_n 0, 1) := by decide +kernel
theorem dX2_dropOldestState_35 : decode cX2_dropOldestState 35 = .ok (.getfield 22, 3) := by decide +kernel
theorem dX2_dropOldestState_38 : decode cX2_dropOldestState 38 = .ok (.iconst 3, 1) := by decide +kernel
theorem dX2_dropOldestState_39 : decode cX2_dropOldestState 39 = .ok (.aload_n 1, 1) := by decide +kernel
theorem dX2_dropOldestState_40 : decode cX2_dropOldestState 40 = .ok (.aastore, 1) := by decide +kernel
theorem dX2_dropOldestState_41 : decode cX2_dropOldestState 41 = .ok (.aload_n 0, 1) := by decide +kernel
theorem dX2_dropOldestState_42 : decode cX2_dropOldestState 42 = .ok (.iconst 3, 1) := by decide +kernel
theorem dX2_dropOldestState_43 : decode cX2_dropOldestState 43 = .ok (.putfield 111, 3) := by decide +kernel
theorem dX2_dropOldestState_46 : decode cX2_dropOldestState 46 = .ok (.return_, 1) := by decide +kernel
theorem dX2_tryCycles_0 : decode cX2_tryCycles 0 = .ok (.aload_n 0, 1) := by decide +kernel
theorem dX2_tryCycles_1 : decode cX2_tryCycles 1 = .ok (.getfield 19, 3) := by decide +kernel
theorem dX2_tryCycles_4 : decode cX2_tryCycles 4 = .ok (.aload_n 0, 1) := by decide +kernel
theorem dX2_tryCycles_5 : decode cX2_tryCycles 5 = .ok (.getfield 10, 3) := by decide +kernel
theorem dX2_tryCycles_8 : decode cX2_tryCycles 8 = .ok (.invokevirtual 114, 3) := by decide +kernel
theorem dX2_tryCycles_11 : decode cX2_tryCycles 11 = .ok (.aload_n 0, 1) := by decide +kernel
theorem dX2_tryCycles_12 : decode cX2_tryCycles 12 = .ok (.getfield 19, 3) := by decide +kernel
theorem dX2_tryCycles_15 : decode cX2_tryCycles 15 = .ok (.iconst 0, 1) := by decide +kernel
theorem dX2_tryCycles_16 : decode cX2_tryCycles 16 = .ok (.putfield 82, 3) := by decide +kernel
theorem dX2_tryCycles_19 : decode cX2_tryCycles 19 = .ok (.aload_n 0, 1) := by decide +kernel
theorem dX2_tryCycles_20 : decode cX2_tryCycles 20 = .ok (.getfield 19, 3) := by decide +kernel
theorem dX2_tryCycles_23 : decode cX2_tryCycles 23 = .ok (.iload_n 1, 1) := by decide +kernel
theorem dX2_tryCycles_24 : decode cX2_tryCycles 24 = .ok (.putfield 79, 3) := by decide +kernel
theorem dX2_tryCycles_27 : decode cX2_tryCycles 27 = .ok (.aload_n 0, 1) := by decide +kernel
theorem dX2_tryCycles_28 : decode cX2_tryCycles 28 = .ok (.getfield 19, 3) := by decide +kernel
theorem dX2_tryCycles_31 : decode cX2_tryCycles 31 = .ok (.iload_n 2, 1) := by decide +kernel
theorem dX2_tryCycles_32 : decode cX2_tryCycles 32 = .ok (.invokevirtual 101, 3) := by decide +kernel
theorem dX2_tryCycles_35 : decode cX2_tryCycles 35 = .ok (.return_, 1) := by decide +kernel
theorem dX3_init_0 : decode cX3_init 0 = .ok (.aload_n 0, 1) := by decide +kernel
theorem dX3_init_1 : decode cX3_init 1 = .ok (.invokespecial 1, 3) := by decide +kernel
theorem dX3_init_4 : decode cX3_init 4 = .ok (.aload_n 0, 1) := by decide +kernel
theorem dX3_init_5 : decode cX3_init 5 = .ok (.bipush 55, 2) := by decide +kernel
theorem dX3_init_7 : decode cX3_init 7 = .ok (.newarray .int, 2) := by decide +kernel
theorem dX3_init_9 : decode cX3_init 9 = .ok (.putfield 7, 3) := by decide +kernel
theorem dX3_init_12 : decode cX3_init 12 = .ok (.aload_n 0, 1) := by decide +kernel
theorem dX3_init_13 : decode cX3_init 13 = .ok (.bipush 55, 2) := by decide +kernel
theorem dX3_init_15 : decode cX3_init 15 = .ok (.newarray .int, 2) := by decide +kernel
theorem dX3_init_17 : decode cX3_init 17 = .ok (.putfield 13, 3) := by decide +kernel
theorem dX3_init_20 : decode cX3_init 20 = .ok (.aload_n 0, 1) := by decide +kernel
theorem dX3_init_21 : decode cX3_init 21 = .ok (.bipush 55, 2) := by decide +kernel
theorem dX3_init_23 : decode cX3_init 23 = .ok (.newarray .int, 2) := by decide +kernel
theorem dX3_init_25 : decode cX3_init 25 = .ok (.putfield 16, 3) := by decide +kernel
theorem dX3_init_28 : decode cX3_init 28 = .ok (.aload_n 0, 1) := by decide +kernel
theorem dX3_init_29 : decode cX3_init 29 = .ok (.sipush 220, 3) := by decide +kernel
theorem dX3_init_32 : decode cX3_init 32 = .ok (.newarray .int, 2) := by decide +kernel
theorem dX3_init_34 : decode cX3_init 34 = .ok (.putfield 19, 3) := by decide +kernel
theorem dX3_init_37 : decode cX3_init 37 = .ok (.aload_n 0, 1) := by decide +kernel
theorem dX3_init_38 : decode cX3_init 38 = .ok (.bipush 55, 2) := by decide +kernel
theorem dX3_init_40 : decode cX3_init 40 = .ok (.newarray .int, 2) := by decide +kernel
theorem dX3_init_42 : decode cX3_init 42 = .ok (.putfield 22, 3) := by decide +kernel
theorem dX3_init_45 : decode cX3_init 45 = .ok (.aload_n 0, 1) := by decide +kernel
theorem dX3_init_46 : decode cX3_init 46 = .ok (.bipush 60, 2) := by decide +kernel
theorem dX3_init_48 : decode cX3_init 48 = .ok (.newarray .int, 2) := by decide +kernel
theorem dX3_init_50 : decode cX3_init 50 = .ok (.putfield 25, 3) := by decide +kernel
theorem dX3_init_53 : decode cX3_init 53 = .ok (.aload_n 0, 1) := by decide +kernel
theorem dX3_init_54 : decode cX3_init 54 = .ok (.bipush 16, 2) := by decide +kernel
theorem dX3_init_56 : decode cX3_init 56 = .ok (.newarray .int, 2) := by decide +kernel
theorem dX3_init_58 : decode cX3_init 58 = .ok (.putfield 28, 3) := by decide +kernel
theorem dX3_init_61 : decode cX3_init 61 = .ok (.aload_n 0, 1) := by decide +kernel
theorem dX3_init_62 : decode cX3_init 62 = .ok (.getfield 7, 3) := by decide +kernel
theorem dX3_init_65 : decode cX3_init 65 = .ok (.iconst 0, 1) := by decide +kernel
theorem dX3_init_66 : decode cX3_init 66 = .ok (.bipush 100, 2) := by decide +kernel
theorem dX3_init_68 : decode cX3_init 68 = .ok (.iastore, 1) := by decide +kernel
theorem dX3_init_69 : decode cX3_init 69 = .ok (.aload_n 0, 1) := by decide +kernel
theorem dX3_init_70 : decode cX3_init 70 = .ok (.getfield 7, 3) := by decide +kernel
theorem dX3_init_73 : decode cX3_init 73 = .ok (.bipush 51, 2) := by decide +kernel
theorem dX3_init_75 : decode cX3_init 75 = .ok (.iconst 1, 1) := by decide +kernel
theorem dX3_init_76 : decode cX3_init 76 = .ok (.iastore, 1) := by decide +kernel
theorem dX3_init_77 : decode cX3_init 77 = .ok (.aload_n 0, 1) := by decide +kernel
theorem dX3_init_78 : decode cX3_init 78 = .ok (.getfield 7, 3) := by decide +kernel
theorem dX3_init_81 : decode cX3_init 81 = .ok (.bipush 49, 2) := by decide +kernel
theorem dX3_init_83 : decode cX3_init 83 = .ok (.iconst 1, 1) := by decide +kernel
theorem dX3_init_84 : decode cX3_init 84 = .ok (.iastore, 1) := by decide +kernel
theorem dX3_init_85 : decode cX3_init 85 = .ok (.aload_n 0, 1) := by decide +kernel
theorem dX3_init_86 : decode cX3_init 86 = .ok (.getfield 7, 3) := by decide +kernel
theorem dX3_init_89 : decode cX3_init 89 = .ok (.bipush 32, 2) := by decide +kernel
theorem dX3_init_91 : decode cX3_init 91 = .ok (.sipush 200, 3) := by decide +kernel
theorem dX3_init_94 : decode cX3_init 94 = .ok (.iastore, 1) := by decide +kernel
theorem dX3_init_95 : decode cX3_init 95 = .ok (.aload_n 0, 1) := by decide +kernel
theorem dX3_init_96 : decode cX3_init 96 = .ok (.getfield 7, 3) := by decide +kernel
theorem dX3_init_99 : decode cX3_init 99 = .ok (.bipush 33, 2) := by decide +kernel
theorem dX3_init_101 : decode cX3_init 101 = .ok (.bipush 40, 2) := by decide +kernel
theorem dX3_init_103 : decode cX3_init 103 = .ok (.iastore, 1) := by decide +kernel
theorem dX3_init_104 : decode cX3_init 104 = .ok (.aload_n 0, 1) := by decide +kernel
theorem dX3_init_105 : decode cX3_init 105 = .ok (.getfield 7, 3) := by decide +kernel
theorem dX3_init_108 : decode cX3_init 108 = .ok (.bipush 34, 2) := by decide +kernel
theorem dX3_init_110 : decode cX3_init 110 = .ok (.iconst 5, 1) := by decide +kernel
theorem dX3_init_111 : decode cX3_init 111 = .ok (.iastore, 1) := by decide +kernel
theorem dX3_init_112 : decode cX3_init 112 = .ok (.aload_n 0, 1) := by decide +kernel
theorem dX3_init_113 : decode cX3_init 113 = .ok (.getfield 7, 3) := by decide +kernel
theorem dX3_init_116 : decode cX3_init 116 = .ok (.bipush 35, 2) := by decide +kernel
theorem dX3_init_118 : decode cX3_init 118 = .ok (.bipush 100, 2) := by decide +kernel
theorem dX3_init_120 : decode cX3_init 120 = .ok (.iastore, 1) := by decide +kernel
theorem dX3_init_121 : decode cX3_init 121 = .ok (.aload_n 0, 1) := by decide +kernel
theorem dX3_init_122 : decode cX3_init 122 = .ok (.getfield 7, 3) := by decide +kernel
theorem dX3_init_125 : decode cX3_init 125 = .ok (.bipush 36, 2) := by decide +kernel
theorem dX3_init_127 : decode cX3_init 127 = .ok (.iconst 2, 1) := by decide +kernel
theorem dX3_init_128 : decode cX3_init 128 = .ok (.iastore, 1) := by decide +kernel
theorem dX3_init_129 : decode cX3_init 129 = .ok (.aload_n 0, 1) := by decide +kernel
theorem dX3_init_130 : decode cX3_init 130 = .ok (.getfield 7, 3) := by decide +kernel
theorem dX3_init_133 : decode cX3_init 133 = .ok (.bipush 37, 2) := by decide +kernel
theorem dX3_init_135 : decode cX3_init 135 = .ok (.bipush 10, 2) := by decide +kernel
theorem dX3_init_137 : decode cX3_init 137 = .ok (.iastore, 1) := by decide +kernel
theorem dX3_init_138 : decode cX3_init 138 = .ok (.aload_n 0, 1) := by decide +kernel
theorem dX3_init_139 : decode cX3_init 139 = .ok (.getfield 7, 3) := by decide +kernel
theorem dX3_init_142 : decode cX3_init 142 = .ok (.bipush 38, 2) := by decide +kernel
theorem dX3_init_144 : decode cX3_init 144 = .ok (.iconst 4, 1) := by decide +kernel
theorem dX3_init_145 : decode cX3_init 145 = .ok (.iastore, 1) := by decide +kernel
theorem dX3_init_146 : decode cX3_init 146 = .ok (.aload_n 0, 1) := by decide +kernel
theorem dX3_init_147 : decode cX3_init 147 = .ok (.getfield 7, 3) := by decide +kernel
theorem dX3_init_150 : decode cX3_init 150 = .ok (.bipush 39, 2) := by decide +kernel
theorem dX3_init_152 : decode cX3_init 152 = .ok (.sipush 1000, 3) := by decide +kernel
theorem dX3_init_155 : decode cX3_init 155 = .ok (.iastore, 1) := by decide +kernel
theorem dX3_init_156 : decode cX3_init 156 = .ok (.aload_n 0, 1) := by decide +kernel
theorem dX3_init_157 : decode cX3_init 157 = .ok (.getfield 7, 3) := by decide +kernel
theorem dX3_init_160 : decode cX3_init 160 = .ok (.bipush 40, 2) := by decide +kernel
theorem dX3_init_162 : decode cX3_init 162 = .ok (.bipush 20, 2) := by decide +kernel
theorem dX3_init_164 : decode cX3_init 164 = .ok (.iastore, 1) := by decide +kernel
theorem dX3_init_165 : decode cX3_init 165 = .ok (.return_, 1) := by decide +kernel
theorem dX3_in_0 : decode cX3_in 0 = .ok (.lload_n 0, 1) := by decide +kernel
theorem dX3_in_1 : decode cX3_in 1 = .ok (.lload_n 2, 1) := by decide +kernel
theorem dX3_in_2 : decode cX3_in 2 = .ok (.lcmp, 1) := by decide +kernel
theorem dX3_in_3 : decode cX3_in 3 = .ok (.ifCond .lt 14, 3) := by decide +kernel
theorem dX3_in_6 : decode cX3_in 6 = .ok (.lload_n 0, 1) := by decide +kernel
theorem dX3_in_7 : decode cX3_in 7 = .ok (.lload 4, 2) := by decide +kernel
theorem dX3_in_9 : decode cX3_in 9 = .ok (.lcmp, 1) := by decide +kernel
theorem dX3_in_10 : decode cX3_in 10 = .ok (.ifCond .gt 7, 3) := by decide +kernel
theorem dX3_in_13 : decode cX3_in 13 = .ok (.iconst 1, 1) := by decide +kernel
theorem dX3_in_14 : decode cX3_in 14 = .ok (.goto 4, 3) := by decide +kernel
theorem dX3_in_17 : decode cX3_in 17 = .ok (.iconst 0, 1) := by decide +kernel
theorem dX3_in_18 : decode cX3_in 18 = .ok (.ireturn, 1) := by decide +kernel
theorem dX3_copy_0 : decode cX3_copy 0 = .ok (.iconst 0, 1) := by decide +kernel
theorem dX3_copy_1 : decode cX3_copy 1 = .ok (.istore_n 2, 1) := by decide +kernel
theorem dX3_copy_2 : decode cX3_copy 2 = .ok (.iload_n 2, 1) := by decide +kernel
theorem dX3_copy_3 : decode cX3_copy 3 = .ok (.bipush 55, 2) := by decide +kernel
theorem dX3_copy_5 : decode cX3_copy 5 = .ok (.if_icmp .ge 15, 3) := by decide +kernel
theorem dX3_copy_8 : decode cX3_copy 8 = .ok (.aload_n 1, 1) := by decide +kernel
theorem dX3_copy_9 : decode cX3_copy 9 = .ok (.iload_n 2, 1) := by decide +kernel
theorem dX3_copy_10 : decode cX3_copy 10 = .ok (.aload_n 0, 1) := by decide +kernel
theorem dX3_copy_11 : decode cX3_copy 11 = .ok (.iload_n 2, 1) := by decide +kernel
theorem dX3_copy_12 : decode cX3_copy 12 = .ok (.iaload, 1) := by decide +kernel
theorem dX3_copy_13 : decode cX3_copy 13 = .ok (.iastore, 1) := by decide +kernel
theorem dX3_copy_14 : decode cX3_copy 14 = .ok (.iinc 2 1, 3) := by decide +kernel
theorem dX3_copy_17 : decode cX3_copy 17 = .ok (.goto (-15), 3) := by decide +kernel
theorem dX3_copy_20 : decode cX3_copy 20 = .ok (.return_, 1) := by decide +kernel
theorem dX3_remember_0 : decode cX3_remember 0 = .ok (.aload_n 0, 1) := by decide +kernel
theorem dX3_remember_1 : decode cX3_remember 1 = .ok (.getfield 7, 3) := by decide +kernel
theorem dX3_remember_4 : decode cX3_remember 4 = .ok (.aload_n 0, 1) := by decide +kernel
theorem dX3_remember_5 : decode cX3_remember 5 = .ok (.getfield 13, 3) := by decide +kernel
theorem dX3_remember_8 : decode cX3_remember 8 = .ok (.invokestatic 31, 3) := by decide +kernel
theorem dX3_remember_11 : decode cX3_remember 11 = .ok (.return_, 1) := by decide +kernel
theorem dX3_acted_0 : decode cX3_acted 0 = .ok (.aload_n 0, 1) := by decide +kernel
theorem dX3_acted_1 : decode cX3_acted 1 = .ok (.getfield 35, 3) := by decide +kernel
theorem dX3_acted_4 : decode cX3_acted 4 = .ok (.iconst 4, 1) := by decide +kernel
theorem dX3_acted_5 : decode cX3_acted 5 = .ok (.if_icmp .ne 43, 3) := by decide +kernel
theorem dX3_acted_8 : decode cX3_acted 8 = .ok (.iconst 0, 1) := by decide +kernel
theorem dX3_acted_9 : decode cX3_acted 9 = .ok (.istore_n 2, 1) := by decide +kernel
theorem dX3_acted_10 : decode cX3_acted 10 = .ok (.iload_n 2, 1) := by decide +kernel
theorem dX3_acted_11 : decode cX3_acted 11 = .ok (.sipush 165, 3) := by decide +kernel
theorem dX3_acted_14 : decode cX3_acted 14 = .ok (.if_icmp .ge 24, 3) := by decide +kernel
theorem dX3_acted_17 : decode cX3_acted 17 = .ok (.aload_n 0, 1) := by decide +kernel
theorem dX3_acted_18 : decode cX3_acted 18 = .ok (.getfield 19, 3) := by decide +kernel
theorem dX3_acted_21 : decode cX3_acted 21 = .ok (.iload_n 2, 1) := by decide +kernel
theorem dX3_acted_22 : decode cX3_acted 22 = .ok (.aload_n 0, 1) := by decide +kernel
theorem dX3_acted_23 : decode cX3_acted 23 = .ok (.getfield 19, 3) := by decide +kernel
theorem dX3_acted_26 : decode cX3_acted 26 = .ok (.iload_n 2, 1) := by decide +kernel
theorem dX3_acted_27 : decode cX3_acted 27 = .ok (.bipush 55, 2) := by decide +kernel
theorem dX3_acted_29 : decode cX3_acted 29 = .ok (.iadd, 1) := by decide +kernel
theorem dX3_acted_30 : decode cX3_acted 30 = .ok (.iaload, 1) := by decide +kernel
theorem dX3_acted_31 : decode cX3_acted 31 = .ok (.iastore, 1) := by decide +kernel
theorem dX3_acted_32 : decode cX3_acted 32 = .ok (.iinc 2 1, 3) := by decide +kernel
theorem dX3_acted_35 : decode cX3_acted 35 = .ok (.goto (-25), 3) := by decide +kernel
theorem dX3_acted_38 : decode cX3_acted 38 = .ok (.aload_n 0, 1) := by decide +kernel
theorem dX3_acted_39 : decode cX3_acted 39 = .ok (.dup, 1) := by decide +kernel
theorem dX3_acted_40 : decode cX3_acted 40 = .ok (.getfield 35, 3) := by decide +kernel
theorem dX3_acted_43 : decode cX3_acted 43 = .ok (.iconst 1, 1) := by decide +kernel
theorem dX3_acted_44 : decode cX3_acted 44 = .ok (.isub, 1) := by decide +kernel
theorem dX3_acted_45 : decode cX3_acted 45 = .ok (.putfield 35, 3) := by decide +kernel
theorem dX3_acted_48 : decode cX3_acted 48 = .ok (.iconst 0, 1) := by decide +kernel
theorem dX3_acted_49 : decode cX3_acted 49 = .ok (.istore_n 2, 1) := by decide +kernel
theorem dX3_acted_50 : decode cX3_acted 50 = .ok (.iload_n 2, 1) := by decide +kernel
theorem dX3_acted_51 : decode cX3_acted 51 = .ok (.bipush 55, 2) := by decide +kernel
theorem dX3_acted_53 : decode cX3_acted 53 = .ok (.if_icmp .ge 29, 3) := by decide +kernel
theorem dX3_acted_56 : decode cX3_acted 56 = .ok (.aload_n 0, 1) := by decide +kernel
theorem dX3_acted_57 : decode cX3_acted 57 = .ok (.getfield 19, 3) := by decide +kernel
theorem dX3_acted_60 : decode cX3_acted 60 = .ok (.bipush 55, 2) := by decide +kernel
theorem dX3_acted_62 : decode cX3_acted 62 = .ok (.aload_n 0, 1) := by decide +kernel
theorem dX3_acted_63 : decode cX3_acted 63 = .ok (.getfield 35, 3) := by decide +kernel
theorem dX3_acted_66 : decode cX3_acted 66 = .ok (.imul, 1) := by decide +kernel
theorem dX3_acted_67 : decode cX3_acted 67 = .ok (.iload_n 2, 1) := by decide +kernel
theorem dX3_acted_68 : decode cX3_acted 68 = .ok (.iadd, 1) := by decide +kernel
theorem dX3_acted_69 : decode cX3_acted 69 = .ok (.aload_n 0, 1) := by decide +kernel
theorem dX3_acted_70 : decode cX3_acted 70 = .ok (.getfield 13, 3) := by decide +kernel
theorem dX3_acted_73 : decode cX3_acted 73 = .ok (.iload_n 2, 1) := by decide +kernel
theorem dX3_acted_74 : decode cX3_acted 74 = .ok (.iaload, 1) := by decide +kernel
theorem dX3_acted_75 : decode cX3_acted 75 = .ok (.iastore, 1) := by decide +kernel
theorem dX3_acted_76 : decode cX3_acted 76 = .ok (.iinc 2 1, 3) := by decide +kernel
theorem dX3_acted_79 : decode cX3_acted 79 = .ok (.goto (-29), 3) := by decide +kernel
theorem dX3_acted_82 : decode cX3_acted 82 = .ok (.aload_n 0, 1) := by decide +kernel
theorem dX3_acted_83 : decode cX3_acted 83 = .ok (.dup, 1) := by decide +kernel
theorem dX3_acted_84 : decode cX3_acted 84 = .ok (.getfield 35, 3) := by decide +kernel
theorem dX3_acted_87 : decode cX3_acted 87 = .ok (.iconst 1, 1) := by decide +kernel
theorem dX3_acted_88 : decode cX3_acted 88 = .ok (.iadd, 1) := by decide +kernel
theorem dX3_acted_89 : decode cX3_acted 89 = .ok (.putfield 35, 3) := by decide +kernel
theorem dX3_acted_92 : decode cX3_acted 92 = .ok (.iload_n 1, 1) := by decide +kernel
theorem dX3_acted_93 : decode cX3_acted 93 = .ok (.ireturn, 1) := by decide +kernel
theorem dX3_isPath_0 : decode cX3_isPath 0 = .ok (.iload_n 1, 1) := by decide +kernel
theorem dX3_isPath_1 : decode cX3_isPath 1 = .ok (.i2l, 1) := by decide +kernel
theorem dX3_isPath_2 : decode cX3_isPath 2 = .ok (.lconst 0, 1) := by decide +kernel
theorem dX3_isPath_3 : decode cX3_isPath 3 = .ok (.aload_n 0, 1) := by decide +kernel
theorem dX3_isPath_4 : decode cX3_isPath 4 = .ok (.getfield 7, 3) := by decide +kernel
theorem dX3_isPath_7 : decode cX3_isPath 7 = .ok (.bipush 51, 2) := by decide +kernel
theorem dX3_isPath_9 : decode cX3_isPath 9 = .ok (.iaload, 1) := by decide +kernel
theorem dX3_isPath_10 : decode cX3_isPath 10 = .ok (.i2l, 1) := by decide +kernel
theorem dX3_isPath_11 : decode cX3_isPath 11 = .ok (.lconst 1, 1) := by decide +kernel
theorem dX3_isPath_12 : decode cX3_isPath 12 = .ok (.lsub, 1) := by decide +kernel
theorem dX3_isPath_13 : decode cX3_isPath 13 = .ok (.invokestatic 39, 3) := by decide +kernel
theorem dX3_isPath_16 : decode cX3_isPath 16 = .ok (.ireturn, 1) := by decide +kernel
theorem dX3_has_0 : decode cX3_has 0 = .ok (.iload_n 0, 1) := by decide +kernel
theorem dX3_has_1 : decode cX3_has 1 = .ok (.iload_n 1, 1) := by decide +kernel
theorem dX3_has_2 : decode cX3_has 2 = .ok (.ishr, 1) := by decide +kernel
theorem dX3_has_3 : decode cX3_has 3 = .ok (.iconst 1, 1) := by decide +kernel
theorem dX3_has_4 : decode cX3_has 4 = .ok (.iand, 1) := by decide +kernel
theorem dX3_has_5 : decode cX3_has 5 = .ok (.iconst 1, 1) := by decide +kernel
theorem dX3_has_6 : decode cX3_has 6 = .ok (.if_icmp .ne 7, 3) := by decide +kernel
theorem dX3_has_9 : decode cX3_has 9 = .ok (.iconst 1, 1) := by decide +kernel
theorem dX3_has_10 : decode cX3_has 10 = .ok (.goto 4, 3) := by decide +kernel
theorem dX3_has_13 : decode cX3_has 13 = .ok (.iconst 0, 1) := by decide +kernel
theorem dX3_has_14 : decode cX3_has 14 = .ok (.ireturn, 1) := by decide +kernel
theorem dX3_delayWith_0 : decode cX3_delayWith 0 = .ok (.aload_n 0, 1) := by decide +kernel
theorem dX3_delayWith_1 : decode cX3_delayWith 1 = .ok (.getfield 7, 3) := by decide +kernel
theorem dX3_delayWith_4 : decode cX3_delayWith 4 = .ok (.iconst 0, 1) := by decide +kernel
theorem dX3_delayWith_5 : decode cX3_delayWith 5 = .ok (.iload_n 1, 1) := by decide +kernel
theorem dX3_delayWith_6 : decode cX3_delayWith 6 = .ok (.iadd, 1) := by decide +kernel
theorem dX3_delayWith_7 : decode cX3_delayWith 7 = .ok (.iaload, 1) := by decide +kernel
theorem dX3_delayWith_8 : decode cX3_delayWith 8 = .ok (.sipush 1000, 3) := by decide +kernel
theorem dX3_delayWith_11 : decode cX3_delayWith 11 = .ok (.imul, 1) := by decide +kernel
theorem dX3_delayWith_12 : decode cX3_delayWith 12 = .ok (.iload_n 2, 1) := by decide +kernel
theorem dX3_delayWith_13 : decode cX3_delayWith 13 = .ok (.sipush 300, 3) := by decide +kernel
theorem dX3_delayWith_16 : decode cX3_delayWith 16 = .ok (.isub, 1) := by decide +kernel
theorem dX3_delayWith_17 : decode cX3_delayWith 17 = .ok (.idiv, 1) := by decide +kernel
theorem dX3_delayWith_18 : decode cX3_delayWith 18 = .ok (.sipush 900, 3) := by decide +kernel
theorem dX3_delayWith_21 : decode cX3_delayWith 21 = .ok (.iload_n 3, 1) := by decide +kernel
theorem dX3_delayWith_22 : decode cX3_delayWith 22 = .ok (.iconst 5, 1) := by decide +kernel
theorem dX3_delayWith_23 : decode cX3_delayWith 23 = .ok (.imul, 1) := by decide +kernel
theorem dX3_delayWith_24 : decode cX3_delayWith 24 = .ok (.iadd, 1) := by decide +kernel
theorem dX3_delayWith_25 : decode cX3_delayWith 25 = .ok (.imul, 1) := by decide +kernel
theorem dX3_delayWith_26 : decode cX3_delayWith 26 = .ok (.sipush 1000, 3) := by decide +kernel
theorem dX3_delayWith_29 : decode cX3_delayWith 29 = .ok (.idiv, 1) := by decide +kernel
theorem dX3_delayWith_30 : decode cX3_delayWith 30 = .ok (.ireturn, 1) := by decide +kernel
theorem dX3_stateWith_0 : decode cX3_stateWith 0 = .ok (.aload_n 0, 1) := by decide +kernel
theorem dX3_stateWith_1 : decode cX3_stateWith 1 = .ok (.iload_n 1, 1) := by decide +kernel
theorem dX3_stateWith_2 : decode cX3_stateWith 2 = .ok (.iload_n 2, 1) := by decide +kernel
theorem dX3_stateWith_3 : decode cX3_stateWith 3 = .ok (.aload_n 0, 1) := by decide +kernel
theorem dX3_stateWith_4 : decode cX3_stateWith 4 = .ok (.getfield 7, 3) := by decide +kernel
theorem dX3_stateWith_7 : decode cX3_stateWith 7 = .ok (.bipush 40, 2) := by decide +kernel
theorem dX3_stateWith_9 : decode cX3_stateWith 9 = .ok (.iaload, 1) := by decide +kernel
theorem dX3_stateWith_10 : decode cX3_stateWith 10 = .ok (.invokevirtual 43, 3) := by decide +kernel
theorem dX3_stateWith_13 : decode cX3_stateWith 13 = .ok (.istore_n 3, 1) := by decide +kernel
theorem dX3_stateWith_14 : decode cX3_stateWith 14 = .ok (.iload_n 3, 1) := by decide +kernel
theorem dX3_stateWith_15 : decode cX3_stateWith 15 = .ok (.aload_n 0, 1) := by decide +kernel
theorem dX3_stateWith_16 : decode cX3_stateWith 16 = .ok (.getfield 7, 3) := by decide +kernel
theorem dX3_stateWith_19 : decode cX3_stateWith 19 = .ok (.bipush 32, 2) := by decide +kernel
theorem dX3_stateWith_21 : decode cX3_stateWith 21 = .ok (.iaload, 1) := by decide +kernel
theorem dX3_stateWith_22 : decode cX3_stateWith 22 = .ok (.if_icmp .gt 7, 3) := by decide +kernel
theorem dX3_stateWith_25 : decode cX3_stateWith 25 = .ok (.iconst 0, 1) := by decide +kernel
theorem dX3_stateWith_26 : decode cX3_stateWith 26 = .ok (.goto 27, 3) := by decide +kernel
theorem dX3_stateWith_29 : decode cX3_stateWith 29 = .ok (.iload_n 3, 1) := by decide +kernel
theorem dX3_stateWith_30 : decode cX3_stateWith 30 = .ok (.aload_n 0, 1) := by decide +kernel
theorem dX3_stateWith_31 : decode cX3_stateWith 31 = .ok (.getfield 7, 3) := by decide +kernel
theorem dX3_stateWith_34 : decode cX3_stateWith 34 = .ok (.bipush 32, 2) := by decide +kernel
theorem dX3_stateWith_36 : decode cX3_stateWith 36 = .ok (.iaload, 1) := by decide +kernel
theorem dX3_stateWith_37 : decode cX3_stateWith 37 = .ok (.aload_n 0, 1) := by decide +kernel
theorem dX3_stateWith_38 : decode cX3_stateWith 38 = .ok (.getfield 7, 3) := by decide +kernel
theorem dX3_stateWith_41 : decode cX3_stateWith 41 = .ok (.bipush 33, 2) := by decide +kernel
theorem dX3_stateWith_43 : decode cX3_stateWith 43 = .ok (.iaload, 1) := by decide +kernel
theorem dX3_stateWith_44 : decode cX3_stateWith 44 = .ok (.iadd, 1) := by decide +kernel
theorem dX3_stateWith_45 : decode cX3_stateWith 45 = .ok (.if_icmp .gt 7, 3) := by decide +kernel
theorem dX3_stateWith_48 : decode cX3_stateWith 48 = .ok (.iconst 1, 1) := by decide +kernel
theorem dX3_stateWith_49 : decode cX3_stateWith 49 = .ok (.goto 4, 3) := by decide +kernel
theorem dX3_stateWith_52 : decode cX3_stateWith 52 = .ok (.iconst 2, 1) := by decide +kernel
theorem dX3_stateWith_53 : decode cX3_stateWith 53 = .ok (.ireturn, 1) := by decide +kernel
theorem dX3_worstOf_0 : decode cX3_worstOf 0 = .ok (.iconst 0, 1) := by decide +kernel
theorem dX3_worstOf_1 : decode cX3_worstOf 1 = .ok (.istore_n 2, 1) := by decide +kernel
theorem dX3_worstOf_2 : decode cX3_worstOf 2 = .ok (.iconst 0, 1) := by decide +kernel
theorem dX3_worstOf_3 : decode cX3_worstOf 3 = .ok (.istore_n 3, 1) := by decide +kernel
theorem dX3_worstOf_4 : decode cX3_worstOf 4 = .ok (.iload_n 3, 1) := by decide +kernel
theorem dX3_worstOf_5 : decode cX3_worstOf 5 = .ok (.aload_n 0, 1) := by decide +kernel
theorem dX3_worstOf_6 : decode cX3_worstOf 6 = .ok (.getfield 7, 3) := by decide +kernel
theorem dX3_worstOf_9 : decode cX3_worstOf 9 = .ok (.bipush 51, 2) := by decide +kernel
theorem dX3_worstOf_11 : decode cX3_worstOf 11 = .ok (.iaload, 1) := by decide +kernel
theorem dX3_worstOf_12 : decode cX3_worstOf 12 = .ok (.if_icmp .ge 48, 3) := by decide +kernel
theorem dX3_worstOf_15 : decode cX3_worstOf 15 = .ok (.iload_n 1, 1) := by decide +kernel
theorem dX3_worstOf_16 : decode cX3_worstOf 16 = .ok (.iload_n 3, 1) := by decide +kernel
theorem dX3_worstOf_17 : decode cX3_worstOf 17 = .ok (.invokestatic 47, 3) := by decide +kernel
theorem dX3_worstOf_20 : decode cX3_worstOf 20 = .ok (.ifCond .eq 18, 3) := by decide +kernel
theorem dX3_worstOf_23 : decode cX3_worstOf 23 = .ok (.aload_n 0, 1) := by decide +kernel
theorem dX3_worstOf_24 : decode cX3_worstOf 24 = .ok (.iload_n 3, 1) := by decide +kernel
theorem dX3_worstOf_25 : decode cX3_worstOf 25 = .ok (.aload_n 0, 1) := by decide +kernel
theorem dX3_worstOf_26 : decode cX3_worstOf 26 = .ok (.getfield 7, 3) := by decide +kernel
theorem dX3_worstOf_29 : decode cX3_worstOf 29 = .ok (.bipush 39, 2) := by decide +kernel
theorem dX3_worstOf_31 : decode cX3_worstOf 31 = .ok (.iaload, 1) := by decide +kernel
theorem dX3_worstOf_32 : decode cX3_worstOf 32 = .ok (.invokevirtual 51, 3) := by decide +kernel
theorem dX3_worstOf_35 : decode cX3_worstOf 35 = .ok (.goto 4, 3) := by decide +kernel
theorem dX3_worstOf_38 : decode cX3_worstOf 38 = .ok (.iconst 0, 1) := by decide +kernel
theorem dX3_worstOf_39 : decode cX3_worstOf 39 = .ok (.istore 4, 2) := by decide +kernel
theorem dX3_worstOf_41 : decode cX3_worstOf 41 = .ok (.iload 4, 2) := by decide +kernel
theorem dX3_worstOf_43 : decode cX3_worstOf 43 = .ok (.iload_n 2, 1) := by decide +kernel
theorem dX3_worstOf_44 : decode cX3_worstOf 44 = .ok (.if_icmp .le 8, 3) := by decide +kernel
theorem dX3_worstOf_47 : decode cX3_worstOf 47 = .ok (.iload 4, 2) := by decide +kernel
theorem dX3_worstOf_49 : decode cX3_worstOf 49 = .ok (.goto 4, 3) := by decide +kernel
theorem dX3_worstOf_52 : decode cX3_worstOf 52 = .ok (.iload_n 2, 1) := by decide +kernel
theorem dX3_worstOf_53 : decode cX3_worstOf 53 = .ok (.istore_n 2, 1) := by decide +kernel
theorem dX3_worstOf_54 : decode cX3_worstOf 54 = .ok (.iinc 3 1, 3) := by decide +kernel
theorem dX3_worstOf_57 : decode cX3_worstOf 57 = .ok (.goto (-53), 3) := by decide +kernel
theorem dX3_worstOf_60 : decode cX3_worstOf 60 = .ok (.iload_n 2, 1) := by decide +kernel
theorem dX3_worstOf_61 : decode cX3_worstOf 61 = .ok (.ireturn, 1) := by decide +kernel
theorem dX3_many_0 : decode cX3_many 0 = .ok (.iconst 0, 1) := by decide +kernel
theorem dX3_many_1 : decode cX3_many 1 = .ok (.istore_n 1, 1) := by decide +kernel
theorem dX3_many_2 : decode cX3_many 2 = .ok (.iload_n 0, 1) := by decide +kernel
theorem dX3_many_3 : decode cX3_many 3 = .ok (.istore_n 2, 1) := by decide +kernel
theorem dX3_many_4 : decode cX3_many 4 = .ok (.iload_n 2, 1) := by decide +kernel
theorem dX3_many_5 : decode cX3_many 5 = .ok (.ifCond .eq 15, 3) := by decide +kernel
theorem dX3_many_8 : decode cX3_many 8 = .ok (.iinc 1 1, 3) := by decide +kernel
theorem dX3_many_11 : decode cX3_many 11 = .ok (.iload_n 2, 1) := by decide +kernel
theorem dX3_many_12 : decode cX3_many 12 = .ok (.iload_n 2, 1) := by decide +kernel
theorem dX3_many_13 : decode cX3_many 13 = .ok (.iconst 1, 1) := by decide +kernel
theorem dX3_many_14 : decode cX3_many 14 = .ok (.isub, 1) := by decide +kernel
theorem dX3_many_15 : decode cX3_many 15 = .ok (.iand, 1) := by decide +kernel
theorem dX3_many_16 : decode cX3_many 16 = .ok (.istore_n 2, 1) := by decide +kernel
theorem dX3_many_17 : decode cX3_many 17 = .ok (.goto (-13), 3) := by decide +kernel
theorem dX3_many_20 : decode cX3_many 20 = .ok (.iload_n 1, 1) := by decide +kernel
theorem dX3_many_21 : decode cX3_many 21 = .ok (.ireturn, 1) := by decide +kernel
theorem dX3_spends_0 : decode cX3_spends 0 = .ok (.aload_n 0, 1) := by decide +kernel
theorem dX3_spends_1 : decode cX3_spends 1 = .ok (.getfield 7, 3) := by decide +kernel
theorem dX3_spends_4 : decode cX3_spends 4 = .ok (.bipush 54, 2) := by decide +kernel
theorem dX3_spends_6 : decode cX3_spends 6 = .ok (.iaload, 1) := by decide +kernel
theorem dX3_spends_7 : decode cX3_spends 7 = .ok (.aload_n 0, 1) := by decide +kernel
theorem dX3_spends_8 : decode cX3_spends 8 = .ok (.getfield 7, 3) := by decide +kernel
theorem dX3_spends_11 : decode cX3_spends 11 = .ok (.bipush 39, 2) := by decide +kernel
theorem dX3_spends_13 : decode cX3_spends 13 = .ok (.iaload, 1) := by decide +kernel
theorem dX3_spends_14 : decode cX3_spends 14 = .ok (.aload_n 0, 1) := by decide +kernel
theorem dX3_spends_15 : decode cX3_spends 15 = .ok (.getfield 7, 3) := by decide +kernel
theorem dX3_spends_18 : decode cX3_spends 18 = .ok (.bipush 39, 2) := by decide +kernel
theorem dX3_spends_20 : decode cX3_spends 20 = .ok (.iaload, 1) := by decide +kernel
theorem dX3_spends_21 : decode cX3_spends 21 = .ok (.imul, 1) := by decide +kernel
theorem dX3_spends_22 : decode cX3_spends 22 = .ok (.sipush 10000, 3) := by decide +kernel
theorem dX3_spends_25 : decode cX3_spends 25 = .ok (.idiv, 1) := by decide +kernel
theorem dX3_spends_26 : decode cX3_spends 26 = .ok (.iadd, 1) := by decide +kernel
theorem dX3_spends_27 : decode cX3_spends 27 = .ok (.istore_n 2, 1) := by decide +kernel
theorem dX3_spends_28 : decode cX3_spends 28 = .ok (.aload_n 0, 1) := by decide +kernel
theorem dX3_spends_29 : decode cX3_spends 29 = .ok (.getfield 7, 3) := by decide +kernel
theorem dX3_spends_32 : decode cX3_spends 32 = .ok (.bipush 46, 2) := by decide +kernel
