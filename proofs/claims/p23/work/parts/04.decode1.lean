theorem dX0_init_0 : decode cX0_init 0 = .ok (.aload_n 0, 1) := by decide +kernel
theorem dX0_init_1 : decode cX0_init 1 = .ok (.invokespecial 1, 3) := by decide +kernel
theorem dX0_init_4 : decode cX0_init 4 = .ok (.aload_n 0, 1) := by decide +kernel
theorem dX0_init_5 : decode cX0_init 5 = .ok (.bipush 8, 2) := by decide +kernel
theorem dX0_init_7 : decode cX0_init 7 = .ok (.newarray .int, 2) := by decide +kernel
theorem dX0_init_9 : decode cX0_init 9 = .ok (.putfield 9, 3) := by decide +kernel
theorem dX0_init_12 : decode cX0_init 12 = .ok (.aload_n 0, 1) := by decide +kernel
theorem dX0_init_13 : decode cX0_init 13 = .ok (.bipush 8, 2) := by decide +kernel
theorem dX0_init_15 : decode cX0_init 15 = .ok (.newarray .int, 2) := by decide +kernel
theorem dX0_init_17 : decode cX0_init 17 = .ok (.putfield 13, 3) := by decide +kernel
theorem dX0_init_20 : decode cX0_init 20 = .ok (.aload_n 0, 1) := by decide +kernel
theorem dX0_init_21 : decode cX0_init 21 = .ok (.bipush 16, 2) := by decide +kernel
theorem dX0_init_23 : decode cX0_init 23 = .ok (.newarray .int, 2) := by decide +kernel
theorem dX0_init_25 : decode cX0_init 25 = .ok (.putfield 16, 3) := by decide +kernel
theorem dX0_init_28 : decode cX0_init 28 = .ok (.aload_n 0, 1) := by decide +kernel
theorem dX0_init_29 : decode cX0_init 29 = .ok (.getstatic 19, 3) := by decide +kernel
theorem dX0_init_32 : decode cX0_init 32 = .ok (.invokevirtual 22, 3) := by decide +kernel
theorem dX0_init_35 : decode cX0_init 35 = .ok (.checkcast 23, 3) := by decide +kernel
theorem dX0_init_38 : decode cX0_init 38 = .ok (.putfield 27, 3) := by decide +kernel
theorem dX0_init_41 : decode cX0_init 41 = .ok (.aload_n 0, 1) := by decide +kernel
theorem dX0_init_42 : decode cX0_init 42 = .ok (.getfield 9, 3) := by decide +kernel
theorem dX0_init_45 : decode cX0_init 45 = .ok (.iconst 0, 1) := by decide +kernel
theorem dX0_init_46 : decode cX0_init 46 = .ok (.bipush 100, 2) := by decide +kernel
theorem dX0_init_48 : decode cX0_init 48 = .ok (.iastore, 1) := by decide +kernel
theorem dX0_init_49 : decode cX0_init 49 = .ok (.aload_n 0, 1) := by decide +kernel
theorem dX0_init_50 : decode cX0_init 50 = .ok (.iconst 1, 1) := by decide +kernel
theorem dX0_init_51 : decode cX0_init 51 = .ok (.putfield 30, 3) := by decide +kernel
theorem dX0_init_54 : decode cX0_init 54 = .ok (.aload_n 0, 1) := by decide +kernel
theorem dX0_init_55 : decode cX0_init 55 = .ok (.iconst 1, 1) := by decide +kernel
theorem dX0_init_56 : decode cX0_init 56 = .ok (.putfield 34, 3) := by decide +kernel
theorem dX0_init_59 : decode cX0_init 59 = .ok (.aload_n 0, 1) := by decide +kernel
theorem dX0_init_60 : decode cX0_init 60 = .ok (.sipush 1000, 3) := by decide +kernel
theorem dX0_init_63 : decode cX0_init 63 = .ok (.putfield 37, 3) := by decide +kernel
theorem dX0_init_66 : decode cX0_init 66 = .ok (.aload_n 0, 1) := by decide +kernel
theorem dX0_init_67 : decode cX0_init 67 = .ok (.bipush 20, 2) := by decide +kernel
theorem dX0_init_69 : decode cX0_init 69 = .ok (.putfield 40, 3) := by decide +kernel
theorem dX0_init_72 : decode cX0_init 72 = .ok (.return_, 1) := by decide +kernel
theorem dX0_copyFrom_0 : decode cX0_copyFrom 0 = .ok (.aload_n 1, 1) := by decide +kernel
theorem dX0_copyFrom_1 : decode cX0_copyFrom 1 = .ok (.getfield 9, 3) := by decide +kernel
theorem dX0_copyFrom_4 : decode cX0_copyFrom 4 = .ok (.iconst 0, 1) := by decide +kernel
theorem dX0_copyFrom_5 : decode cX0_copyFrom 5 = .ok (.aload_n 0, 1) := by decide +kernel
theorem dX0_copyFrom_6 : decode cX0_copyFrom 6 = .ok (.getfield 9, 3) := by decide +kernel
theorem dX0_copyFrom_9 : decode cX0_copyFrom 9 = .ok (.iconst 0, 1) := by decide +kernel
theorem dX0_copyFrom_10 : decode cX0_copyFrom 10 = .ok (.bipush 8, 2) := by decide +kernel
theorem dX0_copyFrom_12 : decode cX0_copyFrom 12 = .ok (.invokestatic 43, 3) := by decide +kernel
theorem dX0_copyFrom_15 : decode cX0_copyFrom 15 = .ok (.aload_n 1, 1) := by decide +kernel
theorem dX0_copyFrom_16 : decode cX0_copyFrom 16 = .ok (.getfield 13, 3) := by decide +kernel
theorem dX0_copyFrom_19 : decode cX0_copyFrom 19 = .ok (.iconst 0, 1) := by decide +kernel
theorem dX0_copyFrom_20 : decode cX0_copyFrom 20 = .ok (.aload_n 0, 1) := by decide +kernel
theorem dX0_copyFrom_21 : decode cX0_copyFrom 21 = .ok (.getfield 13, 3) := by decide +kernel
theorem dX0_copyFrom_24 : decode cX0_copyFrom 24 = .ok (.iconst 0, 1) := by decide +kernel
theorem dX0_copyFrom_25 : decode cX0_copyFrom 25 = .ok (.bipush 8, 2) := by decide +kernel
theorem dX0_copyFrom_27 : decode cX0_copyFrom 27 = .ok (.invokestatic 43, 3) := by decide +kernel
theorem dX0_copyFrom_30 : decode cX0_copyFrom 30 = .ok (.aload_n 1, 1) := by decide +kernel
theorem dX0_copyFrom_31 : decode cX0_copyFrom 31 = .ok (.getfield 16, 3) := by decide +kernel
theorem dX0_copyFrom_34 : decode cX0_copyFrom 34 = .ok (.iconst 0, 1) := by decide +kernel
theorem dX0_copyFrom_35 : decode cX0_copyFrom 35 = .ok (.aload_n 0, 1) := by decide +kernel
theorem dX0_copyFrom_36 : decode cX0_copyFrom 36 = .ok (.getfield 16, 3) := by decide +kernel
theorem dX0_copyFrom_39 : decode cX0_copyFrom 39 = .ok (.iconst 0, 1) := by decide +kernel
theorem dX0_copyFrom_40 : decode cX0_copyFrom 40 = .ok (.bipush 16, 2) := by decide +kernel
theorem dX0_copyFrom_42 : decode cX0_copyFrom 42 = .ok (.invokestatic 43, 3) := by decide +kernel
theorem dX0_copyFrom_45 : decode cX0_copyFrom 45 = .ok (.aload_n 1, 1) := by decide +kernel
theorem dX0_copyFrom_46 : decode cX0_copyFrom 46 = .ok (.getfield 27, 3) := by decide +kernel
theorem dX0_copyFrom_49 : decode cX0_copyFrom 49 = .ok (.iconst 0, 1) := by decide +kernel
theorem dX0_copyFrom_50 : decode cX0_copyFrom 50 = .ok (.aload_n 0, 1) := by decide +kernel
theorem dX0_copyFrom_51 : decode cX0_copyFrom 51 = .ok (.getfield 27, 3) := by decide +kernel
theorem dX0_copyFrom_54 : decode cX0_copyFrom 54 = .ok (.iconst 0, 1) := by decide +kernel
theorem dX0_copyFrom_55 : decode cX0_copyFrom 55 = .ok (.bipush 7, 2) := by decide +kernel
theorem dX0_copyFrom_57 : decode cX0_copyFrom 57 = .ok (.invokestatic 43, 3) := by decide +kernel
theorem dX0_copyFrom_60 : decode cX0_copyFrom 60 = .ok (.aload_n 0, 1) := by decide +kernel
theorem dX0_copyFrom_61 : decode cX0_copyFrom 61 = .ok (.aload_n 1, 1) := by decide +kernel
theorem dX0_copyFrom_62 : decode cX0_copyFrom 62 = .ok (.getfield 30, 3) := by decide +kernel
theorem dX0_copyFrom_65 : decode cX0_copyFrom 65 = .ok (.putfield 30, 3) := by decide +kernel
theorem dX0_copyFrom_68 : decode cX0_copyFrom 68 = .ok (.aload_n 0, 1) := by decide +kernel
theorem dX0_copyFrom_69 : decode cX0_copyFrom 69 = .ok (.aload_n 1, 1) := by decide +kernel
theorem dX0_copyFrom_70 : decode cX0_copyFrom 70 = .ok (.getfield 34, 3) := by decide +kernel
theorem dX0_copyFrom_73 : decode cX0_copyFrom 73 = .ok (.putfield 34, 3) := by decide +kernel
theorem dX0_copyFrom_76 : decode cX0_copyFrom 76 = .ok (.aload_n 0, 1) := by decide +kernel
theorem dX0_copyFrom_77 : decode cX0_copyFrom 77 = .ok (.aload_n 1, 1) := by decide +kernel
theorem dX0_copyFrom_78 : decode cX0_copyFrom 78 = .ok (.getfield 49, 3) := by decide +kernel
theorem dX0_copyFrom_81 : decode cX0_copyFrom 81 = .ok (.putfield 49, 3) := by decide +kernel
theorem dX0_copyFrom_84 : decode cX0_copyFrom 84 = .ok (.aload_n 0, 1) := by decide +kernel
theorem dX0_copyFrom_85 : decode cX0_copyFrom 85 = .ok (.aload_n 1, 1) := by decide +kernel
theorem dX0_copyFrom_86 : decode cX0_copyFrom 86 = .ok (.getfield 37, 3) := by decide +kernel
theorem dX0_copyFrom_89 : decode cX0_copyFrom 89 = .ok (.putfield 37, 3) := by decide +kernel
theorem dX0_copyFrom_92 : decode cX0_copyFrom 92 = .ok (.aload_n 0, 1) := by decide +kernel
theorem dX0_copyFrom_93 : decode cX0_copyFrom 93 = .ok (.aload_n 1, 1) := by decide +kernel
theorem dX0_copyFrom_94 : decode cX0_copyFrom 94 = .ok (.getfield 40, 3) := by decide +kernel
theorem dX0_copyFrom_97 : decode cX0_copyFrom 97 = .ok (.putfield 40, 3) := by decide +kernel
theorem dX0_copyFrom_100 : decode cX0_copyFrom 100 = .ok (.aload_n 0, 1) := by decide +kernel
theorem dX0_copyFrom_101 : decode cX0_copyFrom 101 = .ok (.aload_n 1, 1) := by decide +kernel
theorem dX0_copyFrom_102 : decode cX0_copyFrom 102 = .ok (.getfield 52, 3) := by decide +kernel
theorem dX0_copyFrom_105 : decode cX0_copyFrom 105 = .ok (.putfield 52, 3) := by decide +kernel
theorem dX0_copyFrom_108 : decode cX0_copyFrom 108 = .ok (.aload_n 0, 1) := by decide +kernel
theorem dX0_copyFrom_109 : decode cX0_copyFrom 109 = .ok (.aload_n 1, 1) := by decide +kernel
theorem dX0_copyFrom_110 : decode cX0_copyFrom 110 = .ok (.getfield 56, 3) := by decide +kernel
theorem dX0_copyFrom_113 : decode cX0_copyFrom 113 = .ok (.putfield 56, 3) := by decide +kernel
theorem dX0_copyFrom_116 : decode cX0_copyFrom 116 = .ok (.aload_n 0, 1) := by decide +kernel
theorem dX0_copyFrom_117 : decode cX0_copyFrom 117 = .ok (.aload_n 1, 1) := by decide +kernel
theorem dX0_copyFrom_118 : decode cX0_copyFrom 118 = .ok (.getfield 59, 3) := by decide +kernel
theorem dX0_copyFrom_121 : decode cX0_copyFrom 121 = .ok (.putfield 59, 3) := by decide +kernel
theorem dX0_copyFrom_124 : decode cX0_copyFrom 124 = .ok (.aload_n 0, 1) := by decide +kernel
theorem dX0_copyFrom_125 : decode cX0_copyFrom 125 = .ok (.aload_n 1, 1) := by decide +kernel
theorem dX0_copyFrom_126 : decode cX0_copyFrom 126 = .ok (.getfield 62, 3) := by decide +kernel
theorem dX0_copyFrom_129 : decode cX0_copyFrom 129 = .ok (.putfield 62, 3) := by decide +kernel
theorem dX0_copyFrom_132 : decode cX0_copyFrom 132 = .ok (.aload_n 0, 1) := by decide +kernel
theorem dX0_copyFrom_133 : decode cX0_copyFrom 133 = .ok (.aload_n 1, 1) := by decide +kernel
theorem dX0_copyFrom_134 : decode cX0_copyFrom 134 = .ok (.getfield 65, 3) := by decide +kernel
theorem dX0_copyFrom_137 : decode cX0_copyFrom 137 = .ok (.putfield 65, 3) := by decide +kernel
theorem dX0_copyFrom_140 : decode cX0_copyFrom 140 = .ok (.aload_n 0, 1) := by decide +kernel
theorem dX0_copyFrom_141 : decode cX0_copyFrom 141 = .ok (.aload_n 1, 1) := by decide +kernel
theorem dX0_copyFrom_142 : decode cX0_copyFrom 142 = .ok (.getfield 68, 3) := by decide +kernel
theorem dX0_copyFrom_145 : decode cX0_copyFrom 145 = .ok (.putfield 68, 3) := by decide +kernel
theorem dX0_copyFrom_148 : decode cX0_copyFrom 148 = .ok (.aload_n 0, 1) := by decide +kernel
theorem dX0_copyFrom_149 : decode cX0_copyFrom 149 = .ok (.aload_n 1, 1) := by decide +kernel
theorem dX0_copyFrom_150 : decode cX0_copyFrom 150 = .ok (.getfield 71, 3) := by decide +kernel
theorem dX0_copyFrom_153 : decode cX0_copyFrom 153 = .ok (.putfield 71, 3) := by decide +kernel
theorem dX0_copyFrom_156 : decode cX0_copyFrom 156 = .ok (.aload_n 0, 1) := by decide +kernel
theorem dX0_copyFrom_157 : decode cX0_copyFrom 157 = .ok (.aload_n 1, 1) := by decide +kernel
theorem dX0_copyFrom_158 : decode cX0_copyFrom 158 = .ok (.getfield 74, 3) := by decide +kernel
theorem dX0_copyFrom_161 : decode cX0_copyFrom 161 = .ok (.putfield 74, 3) := by decide +kernel
theorem dX0_copyFrom_164 : decode cX0_copyFrom 164 = .ok (.aload_n 0, 1) := by decide +kernel
theorem dX0_copyFrom_165 : decode cX0_copyFrom 165 = .ok (.aload_n 1, 1) := by decide +kernel
theorem dX0_copyFrom_166 : decode cX0_copyFrom 166 = .ok (.getfield 78, 3) := by decide +kernel
theorem dX0_copyFrom_169 : decode cX0_copyFrom 169 = .ok (.putfield 78, 3) := by decide +kernel
theorem dX0_copyFrom_172 : decode cX0_copyFrom 172 = .ok (.aload_n 0, 1) := by decide +kernel
theorem dX0_copyFrom_173 : decode cX0_copyFrom 173 = .ok (.aload_n 1, 1) := by decide +kernel
theorem dX0_copyFrom_174 : decode cX0_copyFrom 174 = .ok (.getfield 81, 3) := by decide +kernel
theorem dX0_copyFrom_177 : decode cX0_copyFrom 177 = .ok (.putfield 81, 3) := by decide +kernel
theorem dX0_copyFrom_180 : decode cX0_copyFrom 180 = .ok (.return_, 1) := by decide +kernel
theorem dX0_beginWorkload_0 : decode cX0_beginWorkload 0 = .ok (.aload_n 0, 1) := by decide +kernel
theorem dX0_beginWorkload_1 : decode cX0_beginWorkload 1 = .ok (.iload_n 1, 1) := by decide +kernel
theorem dX0_beginWorkload_2 : decode cX0_beginWorkload 2 = .ok (.putfield 34, 3) := by decide +kernel
theorem dX0_beginWorkload_5 : decode cX0_beginWorkload 5 = .ok (.aload_n 0, 1) := by decide +kernel
theorem dX0_beginWorkload_6 : decode cX0_beginWorkload 6 = .ok (.iconst 0, 1) := by decide +kernel
theorem dX0_beginWorkload_7 : decode cX0_beginWorkload 7 = .ok (.putfield 49, 3) := by decide +kernel
theorem dX0_beginWorkload_10 : decode cX0_beginWorkload 10 = .ok (.return_, 1) := by decide +kernel
theorem dX0_beginWindow_0 : decode cX0_beginWindow 0 = .ok (.aload_n 0, 1) := by decide +kernel
theorem dX0_beginWindow_1 : decode cX0_beginWindow 1 = .ok (.iconst 0, 1) := by decide +kernel
theorem dX0_beginWindow_2 : decode cX0_beginWindow 2 = .ok (.putfield 56, 3) := by decide +kernel
theorem dX0_beginWindow_5 : decode cX0_beginWindow 5 = .ok (.aload_n 0, 1) := by decide +kernel
theorem dX0_beginWindow_6 : decode cX0_beginWindow 6 = .ok (.iconst 0, 1) := by decide +kernel
theorem dX0_beginWindow_7 : decode cX0_beginWindow 7 = .ok (.putfield 59, 3) := by decide +kernel
theorem dX0_beginWindow_10 : decode cX0_beginWindow 10 = .ok (.return_, 1) := by decide +kernel
theorem dX0_delayOf_0 : decode cX0_delayOf 0 = .ok (.iload_n 0, 1) := by decide +kernel
theorem dX0_delayOf_1 : decode cX0_delayOf 1 = .ok (.sipush 1000, 3) := by decide +kernel
theorem dX0_delayOf_4 : decode cX0_delayOf 4 = .ok (.imul, 1) := by decide +kernel
theorem dX0_delayOf_5 : decode cX0_delayOf 5 = .ok (.iload_n 1, 1) := by decide +kernel
theorem dX0_delayOf_6 : decode cX0_delayOf 6 = .ok (.sipush 300, 3) := by decide +kernel
theorem dX0_delayOf_9 : decode cX0_delayOf 9 = .ok (.isub, 1) := by decide +kernel
theorem dX0_delayOf_10 : decode cX0_delayOf 10 = .ok (.idiv, 1) := by decide +kernel
theorem dX0_delayOf_11 : decode cX0_delayOf 11 = .ok (.istore_n 3, 1) := by decide +kernel
theorem dX0_delayOf_12 : decode cX0_delayOf 12 = .ok (.iload_n 3, 1) := by decide +kernel
theorem dX0_delayOf_13 : decode cX0_delayOf 13 = .ok (.sipush 900, 3) := by decide +kernel
theorem dX0_delayOf_16 : decode cX0_delayOf 16 = .ok (.iload_n 2, 1) := by decide +kernel
theorem dX0_delayOf_17 : decode cX0_delayOf 17 = .ok (.iconst 5, 1) := by decide +kernel
theorem dX0_delayOf_18 : decode cX0_delayOf 18 = .ok (.imul, 1) := by decide +kernel
theorem dX0_delayOf_19 : decode cX0_delayOf 19 = .ok (.iadd, 1) := by decide +kernel
theorem dX0_delayOf_20 : decode cX0_delayOf 20 = .ok (.imul, 1) := by decide +kernel
theorem dX0_delayOf_21 : decode cX0_delayOf 21 = .ok (.sipush 1000, 3) := by decide +kernel
theorem dX0_delayOf_24 : decode cX0_delayOf 24 = .ok (.idiv, 1) := by decide +kernel
theorem dX0_delayOf_25 : decode cX0_delayOf 25 = .ok (.ireturn, 1) := by decide +kernel
theorem dX0_delayNow_0 : decode cX0_delayNow 0 = .ok (.aload_n 0, 1) := by decide +kernel
theorem dX0_delayNow_1 : decode cX0_delayNow 1 = .ok (.getfield 9, 3) := by decide +kernel
theorem dX0_delayNow_4 : decode cX0_delayNow 4 = .ok (.iload_n 1, 1) := by decide +kernel
theorem dX0_delayNow_5 : decode cX0_delayNow 5 = .ok (.iaload, 1) := by decide +kernel
theorem dX0_delayNow_6 : decode cX0_delayNow 6 = .ok (.aload_n 0, 1) := by decide +kernel
theorem dX0_delayNow_7 : decode cX0_delayNow 7 = .ok (.getfield 37, 3) := by decide +kernel
theorem dX0_delayNow_10 : decode cX0_delayNow 10 = .ok (.aload_n 0, 1) := by decide +kernel
theorem dX0_delayNow_11 : decode cX0_delayNow 11 = .ok (.getfield 40, 3) := by decide +kernel
theorem dX0_delayNow_14 : decode cX0_delayNow 14 = .ok (.invokestatic 84, 3) := by decide +kernel
theorem dX0_delayNow_17 : decode cX0_delayNow 17 = .ok (.ireturn, 1) := by decide +kernel
theorem dX0_judge_0 : decode cX0_judge 0 = .ok (.iload_n 1, 1) := by decide +kernel
theorem dX0_judge_1 : decode cX0_judge 1 = .ok (.aload_n 0, 1) := by decide +kernel
theorem dX0_judge_2 : decode cX0_judge 2 = .ok (.getfield 27, 3) := by decide +kernel
theorem dX0_judge_5 : decode cX0_judge 5 = .ok (.iconst 0, 1) := by decide +kernel
theorem dX0_judge_6 : decode cX0_judge 6 = .ok (.iaload, 1) := by decide +kernel
theorem dX0_judge_7 : decode cX0_judge 7 = .ok (.if_icmp .gt 5, 3) := by decide +kernel
theorem dX0_judge_10 : decode cX0_judge 10 = .ok (.iconst 0, 1) := by decide +kernel
theorem dX0_judge_11 : decode cX0_judge 11 = .ok (.ireturn, 1) := by decide +kernel
theorem dX0_judge_12 : decode cX0_judge 12 = .ok (.iload_n 1, 1) := by decide +kernel
theorem dX0_judge_13 : decode cX0_judge 13 = .ok (.aload_n 0, 1) := by decide +kernel
theorem dX0_judge_14 : decode cX0_judge 14 = .ok (.getfield 27, 3) := by decide +kernel
theorem dX0_judge_17 : decode cX0_judge 17 = .ok (.iconst 0, 1) := by decide +kernel
theorem dX0_judge_18 : decode cX0_judge 18 = .ok (.iaload, 1) := by decide +kernel
theorem dX0_judge_19 : decode cX0_judge 19 = .ok (.aload_n 0, 1) := by decide +kernel
theorem dX0_judge_20 : decode cX0_judge 20 = .ok (.getfield 27, 3) := by decide +kernel
theorem dX0_judge_23 : decode cX0_judge 23 = .ok (.iconst 1, 1) := by decide +kernel
theorem dX0_judge_24 : decode cX0_judge 24 = .ok (.iaload, 1) := by decide +kernel
theorem dX0_judge_25 : decode cX0_judge 25 = .ok (.iadd, 1) := by decide +kernel
theorem dX0_judge_26 : decode cX0_judge 26 = .ok (.if_icmp .gt 7, 3) := by decide +kernel
theorem dX0_judge_29 : decode cX0_judge 29 = .ok (.iconst 1, 1) := by decide +kernel
theorem dX0_judge_30 : decode cX0_judge 30 = .ok (.goto 4, 3) := by decide +kernel
theorem dX0_judge_33 : decode cX0_judge 33 = .ok (.iconst 2, 1) := by decide +kernel
theorem dX0_judge_34 : decode cX0_judge 34 = .ok (.ireturn, 1) := by decide +kernel
theorem dX0_pathsJudged_0 : decode cX0_pathsJudged 0 = .ok (.iconst 0, 1) := by decide +kernel
theorem dX0_pathsJudged_1 : decode cX0_pathsJudged 1 = .ok (.istore_n 2, 1) := by decide +kernel
theorem dX0_pathsJudged_2 : decode cX0_pathsJudged 2 = .ok (.iconst 0, 1) := by decide +kernel
theorem dX0_pathsJudged_3 : decode cX0_pathsJudged 3 = .ok (.istore_n 3, 1) := by decide +kernel
theorem dX0_pathsJudged_4 : decode cX0_pathsJudged 4 = .ok (.iload_n 3, 1) := by decide +kernel
theorem dX0_pathsJudged_5 : decode cX0_pathsJudged 5 = .ok (.aload_n 0, 1) := by decide +kernel
theorem dX0_pathsJudged_6 : decode cX0_pathsJudged 6 = .ok (.getfield 30, 3) := by decide +kernel
theorem dX0_pathsJudged_9 : decode cX0_pathsJudged 9 = .ok (.if_icmp .ge 28, 3) := by decide +kernel
theorem dX0_pathsJudged_12 : decode cX0_pathsJudged 12 = .ok (.aload_n 0, 1) := by decide +kernel
theorem dX0_pathsJudged_13 : decode cX0_pathsJudged 13 = .ok (.aload_n 0, 1) := by decide +kernel
theorem dX0_pathsJudged_14 : decode cX0_pathsJudged 14 = .ok (.iload_n 3, 1) := by decide +kernel
theorem dX0_pathsJudged_15 : decode cX0_pathsJudged 15 = .ok (.invokevirtual 88, 3) := by decide +kernel
theorem dX0_pathsJudged_18 : decode cX0_pathsJudged 18 = .ok (.invokevirtual 92, 3) := by decide +kernel
theorem dX0_pathsJudged_21 : decode cX0_pathsJudged 21 = .ok (.iload_n 1, 1) := by decide +kernel
theorem dX0_pathsJudged_22 : decode cX0_pathsJudged 22 = .ok (.if_icmp .ne 9, 3) := by decide +kernel
theorem dX0_pathsJudged_25 : decode cX0_pathsJudged 25 = .ok (.iload_n 2, 1) := by decide +kernel
theorem dX0_pathsJudged_26 : decode cX0_pathsJudged 26 = .ok (.iconst 1, 1) := by decide +kernel
theorem dX0_pathsJudged_27 : decode cX0_pathsJudged 27 = .ok (.iload_n 3, 1) := by decide +kernel
theorem dX0_pathsJudged_28 : decode cX0_pathsJudged 28 = .ok (.ishl, 1) := by decide +kernel
theorem dX0_pathsJudged_29 : decode cX0_pathsJudged 29 = .ok (.ior, 1) := by decide +kernel
theorem dX0_pathsJudged_30 : decode cX0_pathsJudged 30 = .ok (.istore_n 2, 1) := by decide +kernel
theorem dX0_pathsJudged_31 : decode cX0_pathsJudged 31 = .ok (.iinc 3 1, 3) := by decide +kernel
theorem dX0_pathsJudged_34 : decode cX0_pathsJudged 34 = .ok (.goto (-30), 3) := by decide +kernel
theorem dX0_pathsJudged_37 : decode cX0_pathsJudged 37 = .ok (.iload_n 2, 1) := by decide +kernel
theorem dX0_pathsJudged_38 : decode cX0_pathsJudged 38 = .ok (.ireturn, 1) := by decide +kernel
theorem dX0_setsWith_0 : decode cX0_setsWith 0 = .ok (.iconst 0, 1) := by decide +kernel
theorem dX0_setsWith_1 : decode cX0_setsWith 1 = .ok (.istore_n 2, 1) := by decide +kernel
theorem dX0_setsWith_2 : decode cX0_setsWith 2 = .ok (.iconst 0, 1) := by decide +kernel
theorem dX0_setsWith_3 : decode cX0_setsWith 3 = .ok (.istore_n 3, 1) := by decide +kernel
theorem dX0_setsWith_4 : decode cX0_setsWith 4 = .ok (.iload_n 3, 1) := by decide +kernel
theorem dX0_setsWith_5 : decode cX0_setsWith 5 = .ok (.aload_n 0, 1) := by decide +kernel
theorem dX0_setsWith_6 : decode cX0_setsWith 6 = .ok (.getfield 34, 3) := by decide +kernel
theorem dX0_setsWith_9 : decode cX0_setsWith 9 = .ok (.if_icmp .ge 22, 3) := by decide +kernel
theorem dX0_setsWith_12 : decode cX0_setsWith 12 = .ok (.iload_n 2, 1) := by decide +kernel
theorem dX0_setsWith_13 : decode cX0_setsWith 13 = .ok (.aload_n 0, 1) := by decide +kernel
theorem dX0_setsWith_14 : decode cX0_setsWith 14 = .ok (.getfield 16, 3) := by decide +kernel
theorem dX0_setsWith_17 : decode cX0_setsWith 17 = .ok (.iload_n 3, 1) := by decide +kernel
theorem dX0_setsWith_18 : decode cX0_setsWith 18 = .ok (.iaload, 1) := by decide +kernel
theorem dX0_setsWith_19 : decode cX0_setsWith 19 = .ok (.iload_n 1, 1) := by decide +kernel
theorem dX0_setsWith_20 : decode cX0_setsWith 20 = .ok (.ishr, 1) := by decide +kernel
theorem dX0_setsWith_21 : decode cX0_setsWith 21 = .ok (.iconst 1, 1) := by decide +kernel
theorem dX0_setsWith_22 : decode cX0_setsWith 22 = .ok (.iand, 1) := by decide +kernel
theorem dX0_setsWith_23 : decode cX0_setsWith 23 = .ok (.iadd, 1) := by decide +kernel
theorem dX0_setsWith_24 : decode cX0_setsWith 24 = .ok (.istore_n 2, 1) := by decide +kernel
theorem dX0_setsWith_25 : decode cX0_setsWith 25 = .ok (.iinc 3 1, 3) := by decide +kernel
theorem dX0_setsWith_28 : decode cX0_setsWith 28 = .ok (.goto (-24), 3) := by decide +kernel
theorem dX0_setsWith_31 : decode cX0_setsWith 31 = .ok (.iload_n 2, 1) := by decide +kernel
theorem dX0_setsWith_32 : decode cX0_setsWith 32 = .ok (.ireturn, 1) := by decide +kernel
theorem dX0_longestOf_0 : decode cX0_longestOf 0 = .ok (.iconst 0, 1) := by decide +kernel
theorem dX0_longestOf_1 : decode cX0_longestOf 1 = .ok (.istore_n 2, 1) := by decide +kernel
theorem dX0_longestOf_2 : decode cX0_longestOf 2 = .ok (.iconst 0, 1) := by decide +kernel
theorem dX0_longestOf_3 : decode cX0_longestOf 3 = .ok (.istore_n 3, 1) := by decide +kernel
theorem dX0_longestOf_4 : decode cX0_longestOf 4 = .ok (.iload_n 3, 1) := by decide +kernel
theorem dX0_longestOf_5 : decode cX0_longestOf 5 = .ok (.aload_n 0, 1) := by decide +kernel
theorem dX0_longestOf_6 : decode cX0_longestOf 6 = .ok (.getfield 30, 3) := by decide +kernel
theorem dX0_longestOf_9 : decode cX0_longestOf 9 = .ok (.if_icmp .ge 29, 3) := by decide +kernel
theorem dX0_longestOf_12 : decode cX0_longestOf 12 = .ok (.iload_n 1, 1) := by decide +kernel
theorem dX0_longestOf_13 : decode cX0_longestOf 13 = .ok (.iload_n 3, 1) := by decide +kernel
theorem dX0_longestOf_14 : decode cX0_longestOf 14 = .ok (.ishr, 1) := by decide +kernel
theorem dX0_longestOf_15 : decode cX0_longestOf 15 = .ok (.iconst 1, 1) := by decide +kernel
theorem dX0_longestOf_16 : decode cX0_longestOf 16 = .ok (.iand, 1) := by decide +kernel
theorem dX0_longestOf_17 : decode cX0_longestOf 17 = .ok (.iconst 1, 1) := by decide +kernel
theorem dX0_longestOf_18 : decode cX0_longestOf 18 = .ok (.if_icmp .ne 14, 3) := by decide +kernel
theorem dX0_longestOf_21 : decode cX0_longestOf 21 = .ok (.iload_n 2, 1) := by decide +kernel
theorem dX0_longestOf_22 : decode cX0_longestOf 22 = .ok (.aload_n 0, 1) := by decide +kernel
theorem dX0_longestOf_23 : decode cX0_longestOf 23 = .ok (.getfield 9, 3) := by decide +kernel
theorem dX0_longestOf_26 : decode cX0_longestOf 26 = .ok (.iload_n 3, 1) := by decide +kernel
theorem dX0_longestOf_27 : decode cX0_longestOf 27 = .ok (.iaload, 1) := by decide +kernel
theorem dX0_longestOf_28 : decode cX0_longestOf 28 = .ok (.invokestatic 95, 3) := by decide +kernel
theorem dX0_longestOf_31 : decode cX0_longestOf 31 = .ok (.istore_n 2, 1) := by decide +kernel
theorem dX0_longestOf_32 : decode cX0_longestOf 32 = .ok (.iinc 3 1, 3) := by decide +kernel
theorem dX0_longestOf_35 : decode cX0_longestOf 35 = .ok (.goto (-31), 3) := by decide +kernel
theorem dX0_longestOf_38 : decode cX0_longestOf 38 = .ok (.iload_n 2, 1) := by decide +kernel
theorem dX0_longestOf_39 : decode cX0_longestOf 39 = .ok (.ireturn, 1) := by decide +kernel
theorem dX0_longestInWorkload_0 : decode cX0_longestInWorkload 0 = .ok (.iconst 0, 1) := by decide +kernel
theorem dX0_longestInWorkload_1 : decode cX0_longestInWorkload 1 = .ok (.istore_n 1, 1) := by decide +kernel
theorem dX0_longestInWorkload_2 : decode cX0_longestInWorkload 2 = .ok (.iconst 0, 1) := by decide +kernel
theorem dX0_longestInWorkload_3 : decode cX0_longestInWorkload 3 = .ok (.istore_n 2, 1) := by decide +kernel
theorem dX0_longestInWorkload_4 : decode cX0_longestInWorkload 4 = .ok (.iload_n 2, 1) := by decide +kernel
theorem dX0_longestInWorkload_5 : decode cX0_longestInWorkload 5 = .ok (.aload_n 0, 1) := by decide +kernel
theorem dX0_longestInWorkload_6 : decode cX0_longestInWorkload 6 = .ok (.getfield 34, 3) := by decide +kernel
theorem dX0_longestInWorkload_9 : decode cX0_longestInWorkload 9 = .ok (.if_icmp .ge 18, 3) := by decide +kernel
theorem dX0_longestInWorkload_12 : decode cX0_longestInWorkload 12 = .ok (.iload_n 1, 1) := by decide +kernel
theorem dX0_longestInWorkload_13 : decode cX0_longestInWorkload 13 = .ok (.aload_n 0, 1) := by decide +kernel
theorem dX0_longestInWorkload_14 : decode cX0_longestInWorkload 14 = .ok (.getfield 16, 3) := by decide +kernel
theorem dX0_longestInWorkload_17 : decode cX0_longestInWorkload 17 = .ok (.iload_n 2, 1) := by decide +kernel
theorem dX0_longestInWorkload_18 : decode cX0_longestInWorkload 18 = .ok (.iaload, 1) := by decide +kernel
theorem dX0_longestInWorkload_19 : decode cX0_longestInWorkload 19 = .ok (.ior, 1) := by decide +kernel
theorem dX0_longestInWorkload_20 : decode cX0_longestInWorkload 20 = .ok (.istore_n 1, 1) := by decide +kernel
theorem dX0_longestInWorkload_21 : decode cX0_longestInWorkload 21 = .ok (.iinc 2 1, 3) := by decide +kernel
theorem dX0_longestInWorkload_24 : decode cX0_longestInWorkload 24 = .ok (.goto (-20), 3) := by decide +kernel
theorem dX0_longestInWorkload_27 : decode cX0_longestInWorkload 27 = .ok (.aload_n 0, 1) := by decide +kernel
theorem dX0_longestInWorkload_28 : decode cX0_longestInWorkload 28 = .ok (.iload_n 1, 1) := by decide +kernel
theorem dX0_longestInWorkload_29 : decode cX0_longestInWorkload 29 = .ok (.invokevirtual 101, 3) := by decide +kernel
theorem dX0_longestInWorkload_32 : decode cX0_longestInWorkload 32 = .ok (.ireturn, 1) := by decide +kernel
theorem dX0_runCycles_0 : decode cX0_runCycles 0 = .ok (.iconst 0, 1) := by decide +kernel
theorem dX0_runCycles_1 : decode cX0_runCycles 1 = .ok (.istore_n 2, 1) := by decide +kernel
theorem dX0_runCycles_2 : decode cX0_runCycles 2 = .ok (.iload_n 2, 1) := by decide +kernel
theorem dX0_runCycles_3 : decode cX0_runCycles 3 = .ok (.iload_n 1, 1) := by decide +kernel
theorem dX0_runCycles_4 : decode cX0_runCycles 4 = .ok (.if_icmp .ge 37, 3) := by decide +kernel
theorem dX0_runCycles_7 : decode cX0_runCycles 7 = .ok (.aload_n 0, 1) := by decide +kernel
theorem dX0_runCycles_8 : decode cX0_runCycles 8 = .ok (.invokevirtual 104, 3) := by decide +kernel
theorem dX0_runCycles_11 : decode cX0_runCycles 11 = .ok (.aload_n 0, 1) := by decide +kernel
theorem dX0_runCycles_12 : decode cX0_runCycles 12 = .ok (.getfield 52, 3) := by decide +kernel
theorem dX0_runCycles_15 : decode cX0_runCycles 15 = .ok (.ifCond .eq 20, 3) := by decide +kernel
theorem dX0_runCycles_18 : decode cX0_runCycles 18 = .ok (.aload_n 0, 1) := by decide +kernel
theorem dX0_runCycles_19 : decode cX0_runCycles 19 = .ok (.getfield 56, 3) := by decide +kernel
theorem dX0_runCycles_22 : decode cX0_runCycles 22 = .ok (.aload_n 0, 1) := by decide +kernel
theorem dX0_runCycles_23 : decode cX0_runCycles 23 = .ok (.getfield 27, 3) := by decide +kernel
theorem dX0_runCycles_26 : decode cX0_runCycles 26 = .ok (.iconst 3, 1) := by decide +kernel
theorem dX0_runCycles_27 : decode cX0_runCycles 27 = .ok (.iaload, 1) := by decide +kernel
theorem dX0_runCycles_28 : decode cX0_runCycles 28 = .ok (.if_icmp .lt 7, 3) := by decide +kernel
theorem dX0_runCycles_31 : decode cX0_runCycles 31 = .ok (.aload_n 0, 1) := by decide +kernel
theorem dX0_runCycles_32 : decode cX0_runCycles 32 = .ok (.invokevirtual 107, 3) := by decide +kernel
theorem dX0_runCycles_35 : decode cX0_runCycles 35 = .ok (.iinc 2 1, 3) := by decide +kernel
theorem dX0_runCycles_38 : decode cX0_runCycles 38 = .ok (.goto (-36), 3) := by decide +kernel
theorem dX0_runCycles_41 : decode cX0_runCycles 41 = .ok (.return_, 1) := by decide +kernel
theorem dX0_runOneCycle_0 : decode cX0_runOneCycle 0 = .ok (.aload_n 0, 1) := by decide +kernel
theorem dX0_runOneCycle_1 : decode cX0_runOneCycle 1 = .ok (.getfield 16, 3) := by decide +kernel
theorem dX0_runOneCycle_4 : decode cX0_runOneCycle 4 = .ok (.aload_n 0, 1) := by decide +kernel
theorem dX0_runOneCycle_5 : decode cX0_runOneCycle 5 = .ok (.getfield 49, 3) := by decide +kernel
theorem dX0_runOneCycle_8 : decode cX0_runOneCycle 8 = .ok (.iaload, 1) := by decide +kernel
theorem dX0_runOneCycle_9 : decode cX0_runOneCycle 9 = .ok (.istore_n 1, 1) := by decide +kernel
theorem dX0_runOneCycle_10 : decode cX0_runOneCycle 10 = .ok (.aload_n 0, 1) := by decide +kernel
theorem dX0_runOneCycle_11 : decode cX0_runOneCycle 11 = .ok (.aload_n 0, 1) := by decide +kernel
theorem dX0_runOneCycle_12 : decode cX0_runOneCycle 12 = .ok (.getfield 49, 3) := by decide +kernel
theorem dX0_runOneCycle_15 : decode cX0_runOneCycle 15 = .ok (.iconst 1, 1) := by decide +kernel
theorem dX0_runOneCycle_16 : decode cX0_runOneCycle 16 = .ok (.iadd, 1) := by decide +kernel
theorem dX0_runOneCycle_17 : decode cX0_runOneCycle 17 = .ok (.aload_n 0, 1) := by decide +kernel
theorem dX0_runOneCycle_18 : decode cX0_runOneCycle 18 = .ok (.getfield 34, 3) := by decide +kernel
theorem dX0_runOneCycle_21 : decode cX0_runOneCycle 21 = .ok (.if_icmp .ge 12, 3) := by decide +kernel
theorem dX0_runOneCycle_24 : decode cX0_runOneCycle 24 = .ok (.aload_n 0, 1) := by decide +kernel
theorem dX0_runOneCycle_25 : decode cX0_runOneCycle 25 = .ok (.getfield 49, 3) := by decide +kernel
theorem dX0_runOneCycle_28 : decode cX0_runOneCycle 28 = .ok (.iconst 1, 1) := by decide +kernel
theorem dX0_runOneCycle_29 : decode cX0_runOneCycle 29 = .ok (.iadd, 1) := by decide +kernel
theorem dX0_runOneCycle_30 : decode cX0_runOneCycle 30 = .ok (.goto 4, 3) := by decide +kernel
theorem dX0_runOneCycle_33 : decode cX0_runOneCycle 33 = .ok (.iconst 0, 1) := by decide +kernel
theorem dX0_runOneCycle_34 : decode cX0_runOneCycle 34 = .ok (.putfield 49, 3) := by decide +kernel
theorem dX0_runOneCycle_37 : decode cX0_runOneCycle 37 = .ok (.aload_n 0, 1) := by decide +kernel
theorem dX0_runOneCycle_38 : decode cX0_runOneCycle 38 = .ok (.aload_n 0, 1) := by decide +kernel
theorem dX0_runOneCycle_39 : decode cX0_runOneCycle 39 = .ok (.iload_n 1, 1) := by decide +kernel
theorem dX0_runOneCycle_40 : decode cX0_runOneCycle 40 = .ok (.invokevirtual 101, 3) := by decide +kernel
theorem dX0_runOneCycle_43 : decode cX0_runOneCycle 43 = .ok (.aload_n 0, 1) := by decide +kernel
theorem dX0_runOneCycle_44 : decode cX0_runOneCycle 44 = .ok (.getfield 37, 3) := by decide +kernel
theorem dX0_runOneCycle_47 : decode cX0_runOneCycle 47 = .ok (.aload_n 0, 1) := by decide +kernel
theorem dX0_runOneCycle_48 : decode cX0_runOneCycle 48 = .ok (.getfield 40, 3) := by decide +kernel
theorem dX0_runOneCycle_51 : decode cX0_runOneCycle 51 = .ok (.invokestatic 84, 3) := by decide +kernel
theorem dX0_runOneCycle_54 : decode cX0_runOneCycle 54 = .ok (.invokevirtual 92, 3) := by decide +kernel
theorem dX0_runOneCycle_57 : decode cX0_runOneCycle 57 = .ok (.istore_n 2, 1) := by decide +kernel
theorem dX0_runOneCycle_58 : decode cX0_runOneCycle 58 = .ok (.aload_n 0, 1) := by decide +kernel
theorem dX0_runOneCycle_59 : decode cX0_runOneCycle 59 = .ok (.iload_n 1, 1) := by decide +kernel
theorem dX0_runOneCycle_60 : decode cX0_runOneCycle 60 = .ok (.invokevirtual 110, 3) := by decide +kernel
theorem dX0_runOneCycle_63 : decode cX0_runOneCycle 63 = .ok (.aload_n 0, 1) := by decide +kernel
theorem dX0_runOneCycle_64 : decode cX0_runOneCycle 64 = .ok (.iload_n 1, 1) := by decide +kernel
theorem dX0_runOneCycle_65 : decode cX0_runOneCycle 65 = .ok (.invokestatic 114, 3) := by decide +kernel
theorem dX0_runOneCycle_68 : decode cX0_runOneCycle 68 = .ok (.invokevirtual 119, 3) := by decide +kernel
theorem dX0_runOneCycle_71 : decode cX0_runOneCycle 71 = .ok (.iload_n 2, 1) := by decide +kernel
theorem dX0_runOneCycle_72 : decode cX0_runOneCycle 72 = .ok (.iconst 2, 1) := by decide +kernel
theorem dX0_runOneCycle_73 : decode cX0_runOneCycle 73 = .ok (.if_icmp .ne 14, 3) := by decide +kernel
theorem dX0_runOneCycle_76 : decode cX0_runOneCycle 76 = .ok (.aload_n 0, 1) := by decide +kernel
theorem dX0_runOneCycle_77 : decode cX0_runOneCycle 77 = .ok (.dup, 1) := by decide +kernel
theorem dX0_runOneCycle_78 : decode cX0_runOneCycle 78 = .ok (.getfield 71, 3) := by decide +kernel
theorem dX0_runOneCycle_81 : decode cX0_runOneCycle 81 = .ok (.iconst 1, 1) := by decide +kernel
theorem dX0_runOneCycle_82 : decode cX0_runOneCycle 82 = .ok (.iadd, 1) := by decide +kernel
theorem dX0_runOneCycle_83 : decode cX0_runOneCycle 83 = .ok (.putfield 71, 3) := by decide +kernel
theorem dX0_runOneCycle_86 : decode cX0_runOneCycle 86 = .ok (.return_, 1) := by decide +kernel
theorem dX0_runOneCycle_87 : decode cX0_runOneCycle 87 = .ok (.iload_n 2, 1) := by decide +kernel
theorem dX0_runOneCycle_88 : decode cX0_runOneCycle 88 = .ok (.iconst 1, 1) := by decide +kernel
theorem dX0_runOneCycle_89 : decode cX0_runOneCycle 89 = .ok (.if_icmp .ne 7, 3) := by decide +kernel
theorem dX0_runOneCycle_92 : decode cX0_runOneCycle 92 = .ok (.aload_n 0, 1) := by decide +kernel
theorem dX0_runOneCycle_93 : decode cX0_runOneCycle 93 = .ok (.invokevirtual 122, 3) := by decide +kernel
theorem dX0_runOneCycle_96 : decode cX0_runOneCycle 96 = .ok (.aload_n 0, 1) := by decide +kernel
theorem dX0_runOneCycle_97 : decode cX0_runOneCycle 97 = .ok (.dup, 1) := by decide +kernel
theorem dX0_runOneCycle_98 : decode cX0_runOneCycle 98 = .ok (.getfield 65, 3) := by decide +kernel
theorem dX0_runOneCycle_101 : decode cX0_runOneCycle 101 = .ok (.iconst 1, 1) := by decide +kernel
theorem dX0_runOneCycle_102 : decode cX0_runOneCycle 102 = .ok (.iadd, 1) := by decide +kernel
theorem dX0_runOneCycle_103 : decode cX0_runOneCycle 103 = .ok (.putfield 65, 3) := by decide +kernel
theorem dX0_runOneCycle_106 : decode cX0_runOneCycle 106 = .ok (.return_, 1) := by decide +kernel
theorem dX0_countUses_0 : decode cX0_countUses 0 = .ok (.iconst 0, 1) := by decide +kernel
theorem dX0_countUses_1 : decode cX0_countUses 1 = .ok (.istore_n 2, 1) := by decide +kernel
theorem dX0_countUses_2 : decode cX0_countUses 2 = .ok (.iload_n 2, 1) := by decide +kernel
theorem dX0_countUses_3 : decode cX0_countUses 3 = .ok (.aload_n 0, 1) := by decide +kernel
theorem dX0_countUses_4 : decode cX0_countUses 4 = .ok (.getfield 30, 3) := by decide +kernel
theorem dX0_countUses_7 : decode cX0_countUses 7 = .ok (.if_icmp .ge 23, 3) := by decide +kernel
theorem dX0_countUses_10 : decode cX0_countUses 10 = .ok (.aload_n 0, 1) := by decide +kernel
theorem dX0_countUses_11 : decode cX0_countUses 11 = .ok (.getfield 13, 3) := by decide +kernel
theorem dX0_countUses_14 : decode cX0_countUses 14 = .ok (.iload_n 2, 1) := by decide +kernel
theorem dX0_countUses_15 : decode cX0_countUses 15 = .ok (.dup2, 1) := by decide +kernel
theorem dX0_countUses_16 : decode cX0_countUses 16 = .ok (.iaload, 1) := by decide +kernel
theorem dX0_countUses_17 : decode cX0_countUses 17 = .ok (.iload_n 1, 1) := by decide +kernel
theorem dX0_countUses_18 : decode cX0_countUses 18 = .ok (.iload_n 2, 1) := by decide +kernel
theorem dX0_countUses_19 : decode cX0_countUses 19 = .ok (.ishr, 1) := by decide +kernel
theorem dX0_countUses_20 : decode cX0_countUses 20 = .ok (.iconst 1, 1) := by decide +kernel
theorem dX0_countUses_21 : decode cX0_countUses 21 = .ok (.iand, 1) := by decide +kernel
theorem dX0_countUses_22 : decode cX0_countUses 22 = .ok (.iadd, 1) := by decide +kernel
theorem dX0_countUses_23 : decode cX0_countUses 23 = .ok (.iastore, 1) := by decide +kernel
theorem dX0_countUses_24 : decode cX0_countUses 24 = .ok (.iinc 2 1, 3) := by decide +kernel
theorem dX0_countUses_27 : decode cX0_countUses 27 = .ok (.goto (-25), 3) := by decide +kernel
theorem dX0_countUses_30 : decode cX0_countUses 30 = .ok (.return_, 1) := by decide +kernel
theorem dX0_complain_0 : decode cX0_complain 0 = .ok (.aload_n 0, 1) := by decide +kernel
theorem dX0_complain_1 : decode cX0_complain 1 = .ok (.dup, 1) := by decide +kernel
theorem dX0_complain_2 : decode cX0_complain 2 = .ok (.getfield 68, 3) := by decide +kernel
theorem dX0_complain_5 : decode cX0_complain 5 = .ok (.iconst 1, 1) := by decide +kernel
theorem dX0_complain_6 : decode cX0_complain 6 = .ok (.iadd, 1) := by decide +kernel
theorem dX0_complain_7 : decode cX0_complain 7 = .ok (.putfield 68, 3) := by decide +kernel
theorem dX0_complain_10 : decode cX0_complain 10 = .ok (.aload_n 0, 1) := by decide +kernel
theorem dX0_complain_11 : decode cX0_complain 11 = .ok (.getfield 52, 3) := by decide +kernel
theorem dX0_complain_14 : decode cX0_complain 14 = .ok (.ifCond .eq 13, 3) := by decide +kernel
theorem dX0_complain_17 : decode cX0_complain 17 = .ok (.aload_n 0, 1) := by decide +kernel
theorem dX0_complain_18 : decode cX0_complain 18 = .ok (.dup, 1) := by decide +kernel
theorem dX0_complain_19 : decode cX0_complain 19 = .ok (.getfield 59, 3) := by decide +kernel
theorem dX0_complain_22 : decode cX0_complain 22 = .ok (.iconst 1, 1) := by decide +kernel
theorem dX0_complain_23 : decode cX0_complain 23 = .ok (.iadd, 1) := by decide +kernel
theorem dX0_complain_24 : decode cX0_complain 24 = .ok (.putfield 59, 3) := by decide +kernel
theorem dX0_complain_27 : decode cX0_complain 27 = .ok (.iconst 0, 1) := by decide +kernel
theorem dX0_complain_28 : decode cX0_complain 28 = .ok (.istore_n 1, 1) := by decide +kernel
theorem dX0_complain_29 : decode cX0_complain 29 = .ok (.iload_n 1, 1) := by decide +kernel
theorem dX0_complain_30 : decode cX0_complain 30 = .ok (.aload_n 0, 1) := by decide +kernel
theorem dX0_complain_31 : decode cX0_complain 31 = .ok (.getfield 27, 3) := by decide +kernel
theorem dX0_complain_34 : decode cX0_complain 34 = .ok (.iconst 2, 1) := by decide +kernel
theorem dX0_complain_35 : decode cX0_complain 35 = .ok (.iaload, 1) := by decide +kernel
theorem dX0_complain_36 : decode cX0_complain 36 = .ok (.if_icmp .ge 14, 3) := by decide +kernel
theorem dX0_complain_39 : decode cX0_complain 39 = .ok (.aload_n 0, 1) := by decide +kernel
theorem dX0_complain_40 : decode cX0_complain 40 = .ok (.iconst 0, 1) := by decide +kernel
theorem dX0_complain_41 : decode cX0_complain 41 = .ok (.invokevirtual 119, 3) := by decide +kernel
theorem dX0_complain_44 : decode cX0_complain 44 = .ok (.iinc 1 1, 3) := by decide +kernel
theorem dX0_complain_47 : decode cX0_complain 47 = .ok (.goto (-18), 3) := by decide +kernel
theorem dX0_complain_50 : decode cX0_complain 50 = .ok (.return_, 1) := by decide +kernel
theorem dX0_spendCycle_0 : decode cX0_spendCycle 0 = .ok (.aload_n 0, 1) := by decide +kernel
theorem dX0_spendCycle_1 : decode cX0_spendCycle 1 = .ok (.dup, 1) := by decide +kernel
theorem dX0_spendCycle_2 : decode cX0_spendCycle 2 = .ok (.getfield 62, 3) := by decide +kernel
theorem dX0_spendCycle_5 : decode cX0_spendCycle 5 = .ok (.iconst 1, 1) := by decide +kernel
theorem dX0_spendCycle_6 : decode cX0_spendCycle 6 = .ok (.iadd, 1) := by decide +kernel
theorem dX0_spendCycle_7 : decode cX0_spendCycle 7 = .ok (.putfield 62, 3) := by decide +kernel
theorem dX0_spendCycle_10 : decode cX0_spendCycle 10 = .ok (.aload_n 0, 1) := by decide +kernel
theorem dX0_spendCycle_11 : decode cX0_spendCycle 11 = .ok (.getfield 52, 3) := by decide +kernel
theorem dX0_spendCycle_14 : decode cX0_spendCycle 14 = .ok (.ifCond .eq 13, 3) := by decide +kernel
theorem dX0_spendCycle_17 : decode cX0_spendCycle 17 = .ok (.aload_n 0, 1) := by decide +kernel
theorem dX0_spendCycle_18 : decode cX0_spendCycle 18 = .ok (.dup, 1) := by decide +kernel
theorem dX0_spendCycle_19 : decode cX0_spendCycle 19 = .ok (.getfield 56, 3) := by decide +kernel
theorem dX0_spendCycle_22 : decode cX0_spendCycle 22 = .ok (.iconst 1, 1) := by decide +kernel
theorem dX0_spendCycle_23 : decode cX0_spendCycle 23 = .ok (.iadd, 1) := by decide +kernel
theorem dX0_spendCycle_24 : decode cX0_spendCycle 24 = .ok (.putfield 56, 3) := by decide +kernel
theorem dX0_spendCycle_27 : decode cX0_spendCycle 27 = .ok (.aload_n 0, 1) := by decide +kernel
theorem dX0_spendCycle_28 : decode cX0_spendCycle 28 = .ok (.dup, 1) := by decide +kernel
theorem dX0_spendCycle_29 : decode cX0_spendCycle 29 = .ok (.getfield 74, 3) := by decide +kernel
theorem dX0_spendCycle_32 : decode cX0_spendCycle 32 = .ok (.aload_n 0, 1) := by decide +kernel
theorem dX0_spendCycle_33 : decode cX0_spendCycle 33 = .ok (.getfield 37, 3) := by decide +kernel
theorem dX0_spendCycle_36 : decode cX0_spendCycle 36 = .ok (.aload_n 0, 1) := by decide +kernel
theorem dX0_spendCycle_37 : decode cX0_spendCycle 37 = .ok (.getfield 37, 3) := by decide +kernel
theorem dX0_spendCycle_40 : decode cX0_spendCycle 40 = .ok (.imul, 1) := by decide +kernel
theorem dX0_spendCycle_41 : decode cX0_spendCycle 41 = .ok (.sipush 10000, 3) := by decide +kernel
theorem dX0_spendCycle_44 : decode cX0_spendCycle 44 = .ok (.idiv, 1) := by decide +kernel
theorem dX0_spendCycle_45 : decode cX0_spendCycle 45 = .ok (.i2l, 1) := by decide +kernel
theorem dX0_spendCycle_46 : decode cX0_spendCycle 46 = .ok (.ladd, 1) := by decide +kernel
theorem dX0_spendCycle_47 : decode cX0_spendCycle 47 = .ok (.putfield 74, 3) := by decide +kernel
theorem dX0_spendCycle_50 : decode cX0_spendCycle 50 = .ok (.aload_n 0, 1) := by decide +kernel
theorem dX0_spendCycle_51 : decode cX0_spendCycle 51 = .ok (.getfield 62, 3) := by decide +kernel
theorem dX0_spendCycle_54 : decode cX0_spendCycle 54 = .ok (.iconst 4, 1) := by decide +kernel
theorem dX0_spendCycle_55 : decode cX0_spendCycle 55 = .ok (.irem, 1) := by decide +kernel
theorem dX0_spendCycle_56 : decode cX0_spendCycle 56 = .ok (.ifCond .ne 24, 3) := by decide +kernel
theorem dX0_spendCycle_59 : decode cX0_spendCycle 59 = .ok (.aload_n 0, 1) := by decide +kernel
theorem dX0_spendCycle_60 : decode cX0_spendCycle 60 = .ok (.bipush 120, 2) := by decide +kernel
theorem dX0_spendCycle_62 : decode cX0_spendCycle 62 = .ok (.bipush 20, 2) := by decide +kernel
theorem dX0_spendCycle_64 : decode cX0_spendCycle 64 = .ok (.iload_n 1, 1) := by decide +kernel
theorem dX0_spendCycle_65 : decode cX0_spendCycle 65 = .ok (.aload_n 0, 1) := by decide +kernel
theorem dX0_spendCycle_66 : decode cX0_spendCycle 66 = .ok (.getfield 37, 3) := by decide +kernel
theorem dX0_spendCycle_69 : decode cX0_spendCycle 69 = .ok (.imul, 1) := by decide +kernel
theorem dX0_spendCycle_70 : decode cX0_spendCycle 70 = .ok (.bipush 100, 2) := by decide +kernel
theorem dX0_spendCycle_72 : decode cX0_spendCycle 72 = .ok (.idiv, 1) := by decide +kernel
theorem dX0_spendCycle_73 : decode cX0_spendCycle 73 = .ok (.iadd, 1) := by decide +kernel
theorem dX0_spendCycle_74 : decode cX0_spendCycle 74 = .ok (.invokestatic 125, 3) := by decide +kernel
theorem dX0_spendCycle_77 : decode cX0_spendCycle 77 = .ok (.invokevirtual 128, 3) := by decide +kernel
theorem dX0_spendCycle_80 : decode cX0_spendCycle 80 = .ok (.return_, 1) := by decide +kernel
theorem dX0_changeHeat_0 : decode cX0_changeHeat 0 = .ok (.aload_n 0, 1) := by decide +kernel
theorem dX0_changeHeat_1 : decode cX0_changeHeat 1 = .ok (.getfield 40, 3) := by decide +kernel
theorem dX0_changeHeat_4 : decode cX0_changeHeat 4 = .ok (.iload_n 1, 1) := by decide +kernel
theorem dX0_changeHeat_5 : decode cX0_changeHeat 5 = .ok (.if_icmp .ge 16, 3) := by decide +kernel
theorem dX0_changeHeat_8 : decode cX0_changeHeat 8 = .ok (.aload_n 0, 1) := by decide +kernel
theorem dX0_changeHeat_9 : decode cX0_changeHeat 9 = .ok (.dup, 1) := by decide +kernel
theorem dX0_changeHeat_10 : decode cX0_changeHeat 10 = .ok (.getfield 40, 3) := by decide +kernel
theorem dX0_changeHeat_13 : decode cX0_changeHeat 13 = .ok (.iconst 1, 1) := by decide +kernel
theorem dX0_changeHeat_14 : decode cX0_changeHeat 14 = .ok (.iadd, 1) := by decide +kernel
theorem dX0_changeHeat_15 : decode cX0_changeHeat 15 = .ok (.putfield 40, 3) := by decide +kernel
theorem dX0_changeHeat_18 : decode cX0_changeHeat 18 = .ok (.goto 21, 3) := by decide +kernel
theorem dX0_changeHeat_21 : decode cX0_changeHeat 21 = .ok (.aload_n 0, 1) := by decide +kernel
theorem dX0_changeHeat_22 : decode cX0_changeHeat 22 = .ok (.getfield 40, 3) := by decide +kernel
theorem dX0_changeHeat_25 : decode cX0_changeHeat 25 = .ok (.iload_n 1, 1) := by decide +kernel
theorem dX0_changeHeat_26 : decode cX0_changeHeat 26 = .ok (.if_icmp .le 13, 3) := by decide +kernel
theorem dX0_changeHeat_29 : decode cX0_changeHeat 29 = .ok (.aload_n 0, 1) := by decide +kernel
theorem dX0_changeHeat_30 : decode cX0_changeHeat 30 = .ok (.dup, 1) := by decide +kernel
theorem dX0_changeHeat_31 : decode cX0_changeHeat 31 = .ok (.getfield 40, 3) := by decide +kernel
theorem dX0_changeHeat_34 : decode cX0_changeHeat 34 = .ok (.iconst 1, 1) := by decide +kernel
theorem dX0_changeHeat_35 : decode cX0_changeHeat 35 = .ok (.isub, 1) := by decide +kernel
theorem dX0_changeHeat_36 : decode cX0_changeHeat 36 = .ok (.putfield 40, 3) := by decide +kernel
theorem dX0_changeHeat_39 : decode cX0_changeHeat 39 = .ok (.return_, 1) := by decide +kernel
theorem dX0_lookAtWindow_0 : decode cX0_lookAtWindow 0 = .ok (.aload_n 0, 1) := by decide +kernel
theorem dX0_lookAtWindow_1 : decode cX0_lookAtWindow 1 = .ok (.getfield 59, 3) := by decide +kernel
theorem dX0_lookAtWindow_4 : decode cX0_lookAtWindow 4 = .ok (.aload_n 0, 1) := by decide +kernel
theorem dX0_lookAtWindow_5 : decode cX0_lookAtWindow 5 = .ok (.getfield 27, 3) := by decide +kernel
theorem dX0_lookAtWindow_8 : decode cX0_lookAtWindow 8 = .ok (.iconst 4, 1) := by decide +kernel
theorem dX0_lookAtWindow_9 : decode cX0_lookAtWindow 9 = .ok (.iaload, 1) := by decide +kernel
theorem dX0_lookAtWindow_10 : decode cX0_lookAtWindow 10 = .ok (.isub, 1) := by decide +kernel
theorem dX0_lookAtWindow_11 : decode cX0_lookAtWindow 11 = .ok (.istore_n 1, 1) := by decide +kernel
theorem dX0_lookAtWindow_12 : decode cX0_lookAtWindow 12 = .ok (.iload_n 1, 1) := by decide +kernel
theorem dX0_lookAtWindow_13 : decode cX0_lookAtWindow 13 = .ok (.ifCond .ge 37, 3) := by decide +kernel
theorem dX0_lookAtWindow_16 : decode cX0_lookAtWindow 16 = .ok (.aload_n 0, 1) := by decide +kernel
theorem dX0_lookAtWindow_17 : decode cX0_lookAtWindow 17 = .ok (.sipush 500, 3) := by decide +kernel
theorem dX0_lookAtWindow_20 : decode cX0_lookAtWindow 20 = .ok (.aload_n 0, 1) := by decide +kernel
theorem dX0_lookAtWindow_21 : decode cX0_lookAtWindow 21 = .ok (.getfield 37, 3) := by decide +kernel
theorem dX0_lookAtWindow_24 : decode cX0_lookAtWindow 24 = .ok (.aload_n 0, 1) := by decide +kernel
theorem dX0_lookAtWindow_25 : decode cX0_lookAtWindow 25 = .ok (.getfield 27, 3) := by decide +kernel
theorem dX0_lookAtWindow_28 : decode cX0_lookAtWindow 28 = .ok (.iconst 5, 1) := by decide +kernel
theorem dX0_lookAtWindow_29 : decode cX0_lookAtWindow 29 = .ok (.iaload, 1) := by decide +kernel
theorem dX0_lookAtWindow_30 : decode cX0_lookAtWindow 30 = .ok (.isub, 1) := by decide +kernel
theorem dX0_lookAtWindow_31 : decode cX0_lookAtWindow 31 = .ok (.invokestatic 95, 3) := by decide +kernel
theorem dX0_lookAtWindow_34 : decode cX0_lookAtWindow 34 = .ok (.putfield 37, 3) := by decide +kernel
theorem dX0_lookAtWindow_37 : decode cX0_lookAtWindow 37 = .ok (.aload_n 0, 1) := by decide +kernel
theorem dX0_lookAtWindow_38 : decode cX0_lookAtWindow 38 = .ok (.dup, 1) := by decide +kernel
theorem dX0_lookAtWindow_39 : decode cX0_lookAtWindow 39 = .ok (.getfield 81, 3) := by decide +kernel
theorem dX0_lookAtWindow_42 : decode cX0_lookAtWindow 42 = .ok (.iconst 1, 1) := by decide +kernel
theorem dX0_lookAtWindow_43 : decode cX0_lookAtWindow 43 = .ok (.iadd, 1) := by decide +kernel
theorem dX0_lookAtWindow_44 : decode cX0_lookAtWindow 44 = .ok (.putfield 81, 3) := by decide +kernel
theorem dX0_lookAtWindow_47 : decode cX0_lookAtWindow 47 = .ok (.goto 48, 3) := by decide +kernel
theorem dX0_lookAtWindow_50 : decode cX0_lookAtWindow 50 = .ok (.iload_n 1, 1) := by decide +kernel
theorem dX0_lookAtWindow_51 : decode cX0_lookAtWindow 51 = .ok (.aload_n 0, 1) := by decide +kernel
theorem dX0_lookAtWindow_52 : decode cX0_lookAtWindow 52 = .ok (.getfield 27, 3) := by decide +kernel
theorem dX0_lookAtWindow_55 : decode cX0_lookAtWindow 55 = .ok (.bipush 6, 2) := by decide +kernel
theorem dX0_lookAtWindow_57 : decode cX0_lookAtWindow 57 = .ok (.iaload, 1) := by decide +kernel
theorem dX0_lookAtWindow_58 : decode cX0_lookAtWindow 58 = .ok (.invokestatic 125, 3) := by decide +kernel
theorem dX0_lookAtWindow_61 : decode cX0_lookAtWindow 61 = .ok (.istore_n 2, 1) := by decide +kernel
theorem dX0_lookAtWindow_62 : decode cX0_lookAtWindow 62 = .ok (.aload_n 0, 1) := by decide +kernel
theorem dX0_lookAtWindow_63 : decode cX0_lookAtWindow 63 = .ok (.sipush 1200, 3) := by decide +kernel
theorem dX0_lookAtWindow_66 : decode cX0_lookAtWindow 66 = .ok (.aload_n 0, 1) := by decide +kernel
theorem dX0_lookAtWindow_67 : decode cX0_lookAtWindow 67 = .ok (.getfield 37, 3) := by decide +kernel
theorem dX0_lookAtWindow_70 : decode cX0_lookAtWindow 70 = .ok (.iload_n 2, 1) := by decide +kernel
theorem dX0_lookAtWindow_71 : decode cX0_lookAtWindow 71 = .ok (.aload_n 0, 1) := by decide +kernel
theorem dX0_lookAtWindow_72 : decode cX0_lookAtWindow 72 = .ok (.getfield 27, 3) := by decide +kernel
theorem dX0_lookAtWindow_75 : decode cX0_lookAtWindow 75 = .ok (.iconst 5, 1) := by decide +kernel
theorem dX0_lookAtWindow_76 : decode cX0_lookAtWindow 76 = .ok (.iaload, 1) := by decide +kernel
theorem dX0_lookAtWindow_77 : decode cX0_lookAtWindow 77 = .ok (.imul, 1) := by decide +kernel
theorem dX0_lookAtWindow_78 : decode cX0_lookAtWindow 78 = .ok (.iadd, 1) := by decide +kernel
theorem dX0_lookAtWindow_79 : decode cX0_lookAtWindow 79 = .ok (.invokestatic 125, 3) := by decide +kernel
theorem dX0_lookAtWindow_82 : decode cX0_lookAtWindow 82 = .ok (.putfield 37, 3) := by decide +kernel
theorem dX0_lookAtWindow_85 : decode cX0_lookAtWindow 85 = .ok (.aload_n 0, 1) := by decide +kernel
theorem dX0_lookAtWindow_86 : decode cX0_lookAtWindow 86 = .ok (.dup, 1) := by decide +kernel
theorem dX0_lookAtWindow_87 : decode cX0_lookAtWindow 87 = .ok (.getfield 78, 3) := by decide +kernel
theorem dX0_lookAtWindow_90 : decode cX0_lookAtWindow 90 = .ok (.iload_n 2, 1) := by decide +kernel
theorem dX0_lookAtWindow_91 : decode cX0_lookAtWindow 91 = .ok (.iadd, 1) := by decide +kernel
theorem dX0_lookAtWindow_92 : decode cX0_lookAtWindow 92 = .ok (.putfield 78, 3) := by decide +kernel
theorem dX0_lookAtWindow_95 : decode cX0_lookAtWindow 95 = .ok (.aload_n 0, 1) := by decide +kernel
theorem dX0_lookAtWindow_96 : decode cX0_lookAtWindow 96 = .ok (.invokevirtual 131, 3) := by decide +kernel
theorem dX0_lookAtWindow_99 : decode cX0_lookAtWindow 99 = .ok (.return_, 1) := by decide +kernel
theorem dX1_init_0 : decode cX1_init 0 = .ok (.aload_n 0, 1) := by decide +kernel
theorem dX1_init_1 : decode cX1_init 1 = .ok (.invokespecial 1, 3) := by decide +kernel
theorem dX1_init_4 : decode cX1_init 4 = .ok (.aload_n 0, 1) := by decide +kernel
theorem dX1_init_5 : decode cX1_init 5 = .ok (.bipush 60, 2) := by decide +kernel
theorem dX1_init_7 : decode cX1_init 7 = .ok (.newarray .char, 2) := by decide +kernel
theorem dX1_init_9 : decode cX1_init 9 = .ok (.putfield 9, 3) := by decide +kernel
theorem dX1_init_12 : decode cX1_init 12 = .ok (.aload_n 0, 1) := by decide +kernel
theorem dX1_init_13 : decode cX1_init 13 = .ok (.bipush 16, 2) := by decide +kernel
theorem dX1_init_15 : decode cX1_init 15 = .ok (.newarray .int, 2) := by decide +kernel
theorem dX1_init_17 : decode cX1_init 17 = .ok (.putfield 15, 3) := by decide +kernel
theorem dX1_init_20 : decode cX1_init 20 = .ok (.return_, 1) := by decide +kernel
theorem dX1_append_0 : decode cX1_append 0 = .ok (.aload_n 0, 1) := by decide +kernel
theorem dX1_append_1 : decode cX1_append 1 = .ok (.getfield 19, 3) := by decide +kernel
theorem dX1_append_4 : decode cX1_append 4 = .ok (.bipush 60, 2) := by decide +kernel
theorem dX1_append_6 : decode cX1_append 6 = .ok (.if_icmp .lt 5, 3) := by decide +kernel
theorem dX1_append_9 : decode cX1_append 9 = .ok (.iconst 0, 1) := by decide +kernel
theorem dX1_append_10 : decode cX1_append 10 = .ok (.ireturn, 1) := by decide +kernel
theorem dX1_append_11 : decode cX1_append 11 = .ok (.aload_n 0, 1) := by decide +kernel
theorem dX1_append_12 : decode cX1_append 12 = .ok (.getfield 9, 3) := by decide +kernel
theorem dX1_append_15 : decode cX1_append 15 = .ok (.aload_n 0, 1) := by decide +kernel
theorem dX1_append_16 : decode cX1_append 16 = .ok (.getfield 19, 3) := by decide +kernel
theorem dX1_append_19 : decode cX1_append 19 = .ok (.iload_n 1, 1) := by decide +kernel
theorem dX1_append_20 : decode cX1_append 20 = .ok (.castore, 1) := by decide +kernel
theorem dX1_append_21 : decode cX1_append 21 = .ok (.aload_n 0, 1) := by decide +kernel
theorem dX1_append_22 : decode cX1_append 22 = .ok (.dup, 1) := by decide +kernel
theorem dX1_append_23 : decode cX1_append 23 = .ok (.getfield 19, 3) := by decide +kernel
theorem dX1_append_26 : decode cX1_append 26 = .ok (.iconst 1, 1) := by decide +kernel
theorem dX1_append_27 : decode cX1_append 27 = .ok (.iadd, 1) := by decide +kernel
theorem dX1_append_28 : decode cX1_append 28 = .ok (.putfield 19, 3) := by decide +kernel
theorem dX1_append_31 : decode cX1_append 31 = .ok (.iconst 1, 1) := by decide +kernel
theorem dX1_append_32 : decode cX1_append 32 = .ok (.ireturn, 1) := by decide +kernel
theorem dX1_read_0 : decode cX1_read 0 = .ok (.iconst (-1), 1) := by decide +kernel
theorem dX1_read_1 : decode cX1_read 1 = .ok (.istore_n 1, 1) := by decide +kernel
theorem dX1_read_2 : decode cX1_read 2 = .ok (.aload_n 0, 1) := by decide +kernel
theorem dX1_read_3 : decode cX1_read 3 = .ok (.getfield 15, 3) := by decide +kernel
theorem dX1_read_6 : decode cX1_read 6 = .ok (.iconst 0, 1) := by decide +kernel
theorem dX1_read_7 : decode cX1_read 7 = .ok (.iconst 0, 1) := by decide +kernel
theorem dX1_read_8 : decode cX1_read 8 = .ok (.iastore, 1) := by decide +kernel
theorem dX1_read_9 : decode cX1_read 9 = .ok (.aload_n 0, 1) := by decide +kernel
theorem dX1_read_10 : decode cX1_read 10 = .ok (.iconst 1, 1) := by decide +kernel
theorem dX1_read_11 : decode cX1_read 11 = .ok (.putfield 23, 3) := by decide +kernel
theorem dX1_read_14 : decode cX1_read 14 = .ok (.iconst 0, 1) := by decide +kernel
theorem dX1_read_15 : decode cX1_read 15 = .ok (.istore_n 2, 1) := by decide +kernel
theorem dX1_read_16 : decode cX1_read 16 = .ok (.iload_n 2, 1) := by decide +kernel
theorem dX1_read_17 : decode cX1_read 17 = .ok (.aload_n 0, 1) := by decide +kernel
theorem dX1_read_18 : decode cX1_read 18 = .ok (.getfield 19, 3) := by decide +kernel
theorem dX1_read_21 : decode cX1_read 21 = .ok (.if_icmp .ge 125, 3) := by decide +kernel
theorem dX1_read_24 : decode cX1_read 24 = .ok (.aload_n 0, 1) := by decide +kernel
theorem dX1_read_25 : decode cX1_read 25 = .ok (.getfield 9, 3) := by decide +kernel
theorem dX1_read_28 : decode cX1_read 28 = .ok (.iload_n 2, 1) := by decide +kernel
theorem dX1_read_29 : decode cX1_read 29 = .ok (.caload, 1) := by decide +kernel
theorem dX1_read_30 : decode cX1_read 30 = .ok (.istore_n 3, 1) := by decide +kernel
theorem dX1_read_31 : decode cX1_read 31 = .ok (.iload_n 3, 1) := by decide +kernel
theorem dX1_read_32 : decode cX1_read 32 = .ok (.bipush 44, 2) := by decide +kernel
theorem dX1_read_34 : decode cX1_read 34 = .ok (.if_icmp .ne 42, 3) := by decide +kernel
theorem dX1_read_37 : decode cX1_read 37 = .ok (.iload_n 1, 1) := by decide +kernel
theorem dX1_read_38 : decode cX1_read 38 = .ok (.iconst (-1), 1) := by decide +kernel
theorem dX1_read_39 : decode cX1_read 39 = .ok (.if_icmp .eq 37, 3) := by decide +kernel
theorem dX1_read_42 : decode cX1_read 42 = .ok (.aload_n 0, 1) := by decide +kernel
theorem dX1_read_43 : decode cX1_read 43 = .ok (.getfield 23, 3) := by decide +kernel
theorem dX1_read_46 : decode cX1_read 46 = .ok (.bipush 16, 2) := by decide +kernel
theorem dX1_read_48 : decode cX1_read 48 = .ok (.if_icmp .ge 28, 3) := by decide +kernel
theorem dX1_read_51 : decode cX1_read 51 = .ok (.aload_n 0, 1) := by decide +kernel
theorem dX1_read_52 : decode cX1_read 52 = .ok (.getfield 15, 3) := by decide +kernel
theorem dX1_read_55 : decode cX1_read 55 = .ok (.aload_n 0, 1) := by decide +kernel
theorem dX1_read_56 : decode cX1_read 56 = .ok (.getfield 23, 3) := by decide +kernel
theorem dX1_read_59 : decode cX1_read 59 = .ok (.iconst 0, 1) := by decide +kernel
theorem dX1_read_60 : decode cX1_read 60 = .ok (.iastore, 1) := by decide +kernel
theorem dX1_read_61 : decode cX1_read 61 = .ok (.aload_n 0, 1) := by decide +kernel
theorem dX1_read_62 : decode cX1_read 62 = .ok (.dup, 1) := by decide +kernel
theorem dX1_read_63 : decode cX1_read 63 = .ok (.getfield 23, 3) := by decide +kernel
theorem dX1_read_66 : decode cX1_read 66 = .ok (.iconst 1, 1) := by decide +kernel
theorem dX1_read_67 : decode cX1_read 67 = .ok (.iadd, 1) := by decide +kernel
theorem dX1_read_68 : decode cX1_read 68 = .ok (.putfield 23, 3) := by decide +kernel
theorem dX1_read_71 : decode cX1_read 71 = .ok (.iconst (-1), 1) := by decide +kernel
theorem dX1_read_72 : decode cX1_read 72 = .ok (.istore_n 1, 1) := by decide +kernel
theorem dX1_read_73 : decode cX1_read 73 = .ok (.goto 67, 3) := by decide +kernel
theorem dX1_read_76 : decode cX1_read 76 = .ok (.iload_n 3, 1) := by decide +kernel
theorem dX1_read_77 : decode cX1_read 77 = .ok (.bipush 45, 2) := by decide +kernel
theorem dX1_read_79 : decode cX1_read 79 = .ok (.if_icmp .ne 14, 3) := by decide +kernel
theorem dX1_read_82 : decode cX1_read 82 = .ok (.iload_n 1, 1) := by decide +kernel
theorem dX1_read_83 : decode cX1_read 83 = .ok (.iconst (-1), 1) := by decide +kernel
theorem dX1_read_84 : decode cX1_read 84 = .ok (.if_icmp .ne 9, 3) := by decide +kernel
theorem dX1_read_87 : decode cX1_read 87 = .ok (.bipush 8, 2) := by decide +kernel
theorem dX1_read_89 : decode cX1_read 89 = .ok (.istore_n 1, 1) := by decide +kernel
theorem dX1_read_90 : decode cX1_read 90 = .ok (.goto 50, 3) := by decide +kernel
theorem dX1_read_93 : decode cX1_read 93 = .ok (.iload_n 3, 1) := by decide +kernel
theorem dX1_read_94 : decode cX1_read 94 = .ok (.bipush 48, 2) := by decide +kernel
theorem dX1_read_96 : decode cX1_read 96 = .ok (.if_icmp .lt 42, 3) := by decide +kernel
theorem dX1_read_99 : decode cX1_read 99 = .ok (.iload_n 3, 1) := by decide +kernel
theorem dX1_read_100 : decode cX1_read 100 = .ok (.bipush 55, 2) := by decide +kernel
theorem dX1_read_102 : decode cX1_read 102 = .ok (.if_icmp .gt 36, 3) := by decide +kernel
theorem dX1_read_105 : decode cX1_read 105 = .ok (.iload_n 3, 1) := by decide +kernel
theorem dX1_read_106 : decode cX1_read 106 = .ok (.bipush 48, 2) := by decide +kernel
theorem dX1_read_108 : decode cX1_read 108 = .ok (.isub, 1) := by decide +kernel
theorem dX1_read_109 : decode cX1_read 109 = .ok (.iload_n 1, 1) := by decide +kernel
theorem dX1_read_110 : decode cX1_read 110 = .ok (.if_icmp .le 28, 3) := by decide +kernel
theorem dX1_read_113 : decode cX1_read 113 = .ok (.iload_n 3, 1) := by decide +kernel
theorem dX1_read_114 : decode cX1_read 114 = .ok (.bipush 48, 2) := by decide +kernel
theorem dX1_read_116 : decode cX1_read 116 = .ok (.isub, 1) := by decide +kernel
theorem dX1_read_117 : decode cX1_read 117 = .ok (.istore_n 1, 1) := by decide +kernel
theorem dX1_read_118 : decode cX1_read 118 = .ok (.aload_n 0, 1) := by decide +kernel
theorem dX1_read_119 : decode cX1_read 119 = .ok (.getfield 15, 3) := by decide +kernel
theorem dX1_read_122 : decode cX1_read 122 = .ok (.aload_n 0, 1) := by decide +kernel
theorem dX1_read_123 : decode cX1_read 123 = .ok (.getfield 23, 3) := by decide +kernel
theorem dX1_read_126 : decode cX1_read 126 = .ok (.iconst 1, 1) := by decide +kernel
theorem dX1_read_127 : decode cX1_read 127 = .ok (.isub, 1) := by decide +kernel
theorem dX1_read_128 : decode cX1_read 128 = .ok (.dup2, 1) := by decide +kernel
theorem dX1_read_129 : decode cX1_read 129 = .ok (.iaload, 1) := by decide +kernel
theorem dX1_read_130 : decode cX1_read 130 = .ok (.iconst 1, 1) := by decide +kernel
theorem dX1_read_131 : decode cX1_read 131 = .ok (.iload_n 1, 1) := by decide +kernel
theorem dX1_read_132 : decode cX1_read 132 = .ok (.ishl, 1) := by decide +kernel
theorem dX1_read_133 : decode cX1_read 133 = .ok (.ior, 1) := by decide +kernel
theorem dX1_read_134 : decode cX1_read 134 = .ok (.iastore, 1) := by decide +kernel
theorem dX1_read_135 : decode cX1_read 135 = .ok (.goto 5, 3) := by decide +kernel
theorem dX1_read_138 : decode cX1_read 138 = .ok (.iload_n 2, 1) := by decide +kernel
theorem dX1_read_139 : decode cX1_read 139 = .ok (.ireturn, 1) := by decide +kernel
theorem dX1_read_140 : decode cX1_read 140 = .ok (.iinc 2 1, 3) := by decide +kernel
theorem dX1_read_143 : decode cX1_read 143 = .ok (.goto (-127), 3) := by decide +kernel
theorem dX1_read_146 : decode cX1_read 146 = .ok (.iload_n 1, 1) := by decide +kernel
theorem dX1_read_147 : decode cX1_read 147 = .ok (.iconst (-1), 1) := by decide +kernel
theorem dX1_read_148 : decode cX1_read 148 = .ok (.if_icmp .ne 10, 3) := by decide +kernel
theorem dX1_read_151 : decode cX1_read 151 = .ok (.aload_n 0, 1) := by decide +kernel
theorem dX1_read_152 : decode cX1_read 152 = .ok (.getfield 19, 3) := by decide +kernel
theorem dX1_read_155 : decode cX1_read 155 = .ok (.goto 4, 3) := by decide +kernel
theorem dX1_read_158 : decode cX1_read 158 = .ok (.iconst (-1), 1) := by decide +kernel
theorem dX1_read_159 : decode cX1_read 159 = .ok (.ireturn, 1) := by decide +kernel
theorem dX2_init_0 : decode cX2_init 0 = .ok (.aload_n 0, 1) := by decide +kernel
theorem dX2_init_1 : decode cX2_init 1 = .ok (.invokespecial 1, 3) := by decide +kernel
theorem dX2_init_4 : decode cX2_init 4 = .ok (.aload_n 0, 1) := by decide +kernel
theorem dX2_init_5 : decode cX2_init 5 = .ok (.new 7, 3) := by decide +kernel
