theorem dX3_spends_34 : decode cX3_spends 34 = .ok (.dup2, 1) := by decide +kernel
theorem dX3_spends_35 : decode cX3_spends 35 = .ok (.iaload, 1) := by decide +kernel
theorem dX3_spends_36 : decode cX3_spends 36 = .ok (.iload_n 2, 1) := by decide +kernel
theorem dX3_spends_37 : decode cX3_spends 37 = .ok (.sipush 1000, 3) := by decide +kernel
theorem dX3_spends_40 : decode cX3_spends 40 = .ok (.idiv, 1) := by decide +kernel
theorem dX3_spends_41 : decode cX3_spends 41 = .ok (.iadd, 1) := by decide +kernel
theorem dX3_spends_42 : decode cX3_spends 42 = .ok (.iastore, 1) := by decide +kernel
theorem dX3_spends_43 : decode cX3_spends 43 = .ok (.aload_n 0, 1) := by decide +kernel
theorem dX3_spends_44 : decode cX3_spends 44 = .ok (.getfield 7, 3) := by decide +kernel
theorem dX3_spends_47 : decode cX3_spends 47 = .ok (.bipush 54, 2) := by decide +kernel
theorem dX3_spends_49 : decode cX3_spends 49 = .ok (.iload_n 2, 1) := by decide +kernel
theorem dX3_spends_50 : decode cX3_spends 50 = .ok (.sipush 1000, 3) := by decide +kernel
theorem dX3_spends_53 : decode cX3_spends 53 = .ok (.irem, 1) := by decide +kernel
theorem dX3_spends_54 : decode cX3_spends 54 = .ok (.iastore, 1) := by decide +kernel
theorem dX3_spends_55 : decode cX3_spends 55 = .ok (.aload_n 0, 1) := by decide +kernel
theorem dX3_spends_56 : decode cX3_spends 56 = .ok (.getfield 7, 3) := by decide +kernel
theorem dX3_spends_59 : decode cX3_spends 59 = .ok (.bipush 42, 2) := by decide +kernel
theorem dX3_spends_61 : decode cX3_spends 61 = .ok (.dup2, 1) := by decide +kernel
theorem dX3_spends_62 : decode cX3_spends 62 = .ok (.iaload, 1) := by decide +kernel
theorem dX3_spends_63 : decode cX3_spends 63 = .ok (.iconst 1, 1) := by decide +kernel
theorem dX3_spends_64 : decode cX3_spends 64 = .ok (.iadd, 1) := by decide +kernel
theorem dX3_spends_65 : decode cX3_spends 65 = .ok (.iastore, 1) := by decide +kernel
theorem dX3_spends_66 : decode cX3_spends 66 = .ok (.aload_n 0, 1) := by decide +kernel
theorem dX3_spends_67 : decode cX3_spends 67 = .ok (.getfield 7, 3) := by decide +kernel
theorem dX3_spends_70 : decode cX3_spends 70 = .ok (.bipush 47, 2) := by decide +kernel
theorem dX3_spends_72 : decode cX3_spends 72 = .ok (.dup2, 1) := by decide +kernel
theorem dX3_spends_73 : decode cX3_spends 73 = .ok (.iaload, 1) := by decide +kernel
theorem dX3_spends_74 : decode cX3_spends 74 = .ok (.aload_n 0, 1) := by decide +kernel
theorem dX3_spends_75 : decode cX3_spends 75 = .ok (.getfield 7, 3) := by decide +kernel
theorem dX3_spends_78 : decode cX3_spends 78 = .ok (.bipush 41, 2) := by decide +kernel
theorem dX3_spends_80 : decode cX3_spends 80 = .ok (.iaload, 1) := by decide +kernel
theorem dX3_spends_81 : decode cX3_spends 81 = .ok (.iadd, 1) := by decide +kernel
theorem dX3_spends_82 : decode cX3_spends 82 = .ok (.iastore, 1) := by decide +kernel
theorem dX3_spends_83 : decode cX3_spends 83 = .ok (.bipush 20, 2) := by decide +kernel
theorem dX3_spends_85 : decode cX3_spends 85 = .ok (.iload_n 1, 1) := by decide +kernel
theorem dX3_spends_86 : decode cX3_spends 86 = .ok (.aload_n 0, 1) := by decide +kernel
theorem dX3_spends_87 : decode cX3_spends 87 = .ok (.getfield 7, 3) := by decide +kernel
theorem dX3_spends_90 : decode cX3_spends 90 = .ok (.bipush 39, 2) := by decide +kernel
theorem dX3_spends_92 : decode cX3_spends 92 = .ok (.iaload, 1) := by decide +kernel
theorem dX3_spends_93 : decode cX3_spends 93 = .ok (.imul, 1) := by decide +kernel
theorem dX3_spends_94 : decode cX3_spends 94 = .ok (.bipush 100, 2) := by decide +kernel
theorem dX3_spends_96 : decode cX3_spends 96 = .ok (.idiv, 1) := by decide +kernel
theorem dX3_spends_97 : decode cX3_spends 97 = .ok (.iadd, 1) := by decide +kernel
theorem dX3_spends_98 : decode cX3_spends 98 = .ok (.istore_n 3, 1) := by decide +kernel
theorem dX3_spends_99 : decode cX3_spends 99 = .ok (.iload_n 3, 1) := by decide +kernel
theorem dX3_spends_100 : decode cX3_spends 100 = .ok (.bipush 120, 2) := by decide +kernel
theorem dX3_spends_102 : decode cX3_spends 102 = .ok (.if_icmp .le 8, 3) := by decide +kernel
theorem dX3_spends_105 : decode cX3_spends 105 = .ok (.bipush 120, 2) := by decide +kernel
theorem dX3_spends_107 : decode cX3_spends 107 = .ok (.goto 4, 3) := by decide +kernel
theorem dX3_spends_110 : decode cX3_spends 110 = .ok (.iload_n 3, 1) := by decide +kernel
theorem dX3_spends_111 : decode cX3_spends 111 = .ok (.istore_n 3, 1) := by decide +kernel
theorem dX3_spends_112 : decode cX3_spends 112 = .ok (.aload_n 0, 1) := by decide +kernel
theorem dX3_spends_113 : decode cX3_spends 113 = .ok (.getfield 7, 3) := by decide +kernel
theorem dX3_spends_116 : decode cX3_spends 116 = .ok (.bipush 42, 2) := by decide +kernel
theorem dX3_spends_118 : decode cX3_spends 118 = .ok (.iaload, 1) := by decide +kernel
theorem dX3_spends_119 : decode cX3_spends 119 = .ok (.iconst 4, 1) := by decide +kernel
theorem dX3_spends_120 : decode cX3_spends 120 = .ok (.irem, 1) := by decide +kernel
theorem dX3_spends_121 : decode cX3_spends 121 = .ok (.ifCond .ne 44, 3) := by decide +kernel
theorem dX3_spends_124 : decode cX3_spends 124 = .ok (.aload_n 0, 1) := by decide +kernel
theorem dX3_spends_125 : decode cX3_spends 125 = .ok (.getfield 7, 3) := by decide +kernel
theorem dX3_spends_128 : decode cX3_spends 128 = .ok (.bipush 40, 2) := by decide +kernel
theorem dX3_spends_130 : decode cX3_spends 130 = .ok (.dup2, 1) := by decide +kernel
theorem dX3_spends_131 : decode cX3_spends 131 = .ok (.iaload, 1) := by decide +kernel
theorem dX3_spends_132 : decode cX3_spends 132 = .ok (.aload_n 0, 1) := by decide +kernel
theorem dX3_spends_133 : decode cX3_spends 133 = .ok (.getfield 7, 3) := by decide +kernel
theorem dX3_spends_136 : decode cX3_spends 136 = .ok (.bipush 40, 2) := by decide +kernel
theorem dX3_spends_138 : decode cX3_spends 138 = .ok (.iaload, 1) := by decide +kernel
theorem dX3_spends_139 : decode cX3_spends 139 = .ok (.iload_n 3, 1) := by decide +kernel
theorem dX3_spends_140 : decode cX3_spends 140 = .ok (.if_icmp .ge 7, 3) := by decide +kernel
theorem dX3_spends_143 : decode cX3_spends 143 = .ok (.iconst 1, 1) := by decide +kernel
theorem dX3_spends_144 : decode cX3_spends 144 = .ok (.goto 19, 3) := by decide +kernel
theorem dX3_spends_147 : decode cX3_spends 147 = .ok (.aload_n 0, 1) := by decide +kernel
theorem dX3_spends_148 : decode cX3_spends 148 = .ok (.getfield 7, 3) := by decide +kernel
theorem dX3_spends_151 : decode cX3_spends 151 = .ok (.bipush 40, 2) := by decide +kernel
theorem dX3_spends_153 : decode cX3_spends 153 = .ok (.iaload, 1) := by decide +kernel
theorem dX3_spends_154 : decode cX3_spends 154 = .ok (.iload_n 3, 1) := by decide +kernel
theorem dX3_spends_155 : decode cX3_spends 155 = .ok (.if_icmp .le 7, 3) := by decide +kernel
theorem dX3_spends_158 : decode cX3_spends 158 = .ok (.iconst (-1), 1) := by decide +kernel
theorem dX3_spends_159 : decode cX3_spends 159 = .ok (.goto 4, 3) := by decide +kernel
theorem dX3_spends_162 : decode cX3_spends 162 = .ok (.iconst 0, 1) := by decide +kernel
theorem dX3_spends_163 : decode cX3_spends 163 = .ok (.iadd, 1) := by decide +kernel
theorem dX3_spends_164 : decode cX3_spends 164 = .ok (.iastore, 1) := by decide +kernel
theorem dX3_spends_165 : decode cX3_spends 165 = .ok (.return_, 1) := by decide +kernel
theorem dX3_looks_0 : decode cX3_looks 0 = .ok (.aload_n 0, 1) := by decide +kernel
theorem dX3_looks_1 : decode cX3_looks 1 = .ok (.getfield 7, 3) := by decide +kernel
theorem dX3_looks_4 : decode cX3_looks 4 = .ok (.bipush 48, 2) := by decide +kernel
theorem dX3_looks_6 : decode cX3_looks 6 = .ok (.iaload, 1) := by decide +kernel
theorem dX3_looks_7 : decode cX3_looks 7 = .ok (.aload_n 0, 1) := by decide +kernel
theorem dX3_looks_8 : decode cX3_looks 8 = .ok (.getfield 7, 3) := by decide +kernel
theorem dX3_looks_11 : decode cX3_looks 11 = .ok (.bipush 36, 2) := by decide +kernel
theorem dX3_looks_13 : decode cX3_looks 13 = .ok (.iaload, 1) := by decide +kernel
theorem dX3_looks_14 : decode cX3_looks 14 = .ok (.isub, 1) := by decide +kernel
theorem dX3_looks_15 : decode cX3_looks 15 = .ok (.istore_n 1, 1) := by decide +kernel
theorem dX3_looks_16 : decode cX3_looks 16 = .ok (.iload_n 1, 1) := by decide +kernel
theorem dX3_looks_17 : decode cX3_looks 17 = .ok (.ifCond .ge 34, 3) := by decide +kernel
theorem dX3_looks_20 : decode cX3_looks 20 = .ok (.aload_n 0, 1) := by decide +kernel
theorem dX3_looks_21 : decode cX3_looks 21 = .ok (.getfield 7, 3) := by decide +kernel
theorem dX3_looks_24 : decode cX3_looks 24 = .ok (.bipush 39, 2) := by decide +kernel
theorem dX3_looks_26 : decode cX3_looks 26 = .ok (.dup2, 1) := by decide +kernel
theorem dX3_looks_27 : decode cX3_looks 27 = .ok (.iaload, 1) := by decide +kernel
theorem dX3_looks_28 : decode cX3_looks 28 = .ok (.aload_n 0, 1) := by decide +kernel
theorem dX3_looks_29 : decode cX3_looks 29 = .ok (.getfield 7, 3) := by decide +kernel
theorem dX3_looks_32 : decode cX3_looks 32 = .ok (.bipush 37, 2) := by decide +kernel
theorem dX3_looks_34 : decode cX3_looks 34 = .ok (.iaload, 1) := by decide +kernel
theorem dX3_looks_35 : decode cX3_looks 35 = .ok (.isub, 1) := by decide +kernel
theorem dX3_looks_36 : decode cX3_looks 36 = .ok (.iastore, 1) := by decide +kernel
theorem dX3_looks_37 : decode cX3_looks 37 = .ok (.aload_n 0, 1) := by decide +kernel
theorem dX3_looks_38 : decode cX3_looks 38 = .ok (.getfield 7, 3) := by decide +kernel
theorem dX3_looks_41 : decode cX3_looks 41 = .ok (.bipush 53, 2) := by decide +kernel
theorem dX3_looks_43 : decode cX3_looks 43 = .ok (.dup2, 1) := by decide +kernel
theorem dX3_looks_44 : decode cX3_looks 44 = .ok (.iaload, 1) := by decide +kernel
theorem dX3_looks_45 : decode cX3_looks 45 = .ok (.iconst 1, 1) := by decide +kernel
theorem dX3_looks_46 : decode cX3_looks 46 = .ok (.iadd, 1) := by decide +kernel
theorem dX3_looks_47 : decode cX3_looks 47 = .ok (.iastore, 1) := by decide +kernel
theorem dX3_looks_48 : decode cX3_looks 48 = .ok (.goto 60, 3) := by decide +kernel
theorem dX3_looks_51 : decode cX3_looks 51 = .ok (.iload_n 1, 1) := by decide +kernel
theorem dX3_looks_52 : decode cX3_looks 52 = .ok (.ifCond .le 56, 3) := by decide +kernel
theorem dX3_looks_55 : decode cX3_looks 55 = .ok (.iload_n 1, 1) := by decide +kernel
theorem dX3_looks_56 : decode cX3_looks 56 = .ok (.aload_n 0, 1) := by decide +kernel
theorem dX3_looks_57 : decode cX3_looks 57 = .ok (.getfield 7, 3) := by decide +kernel
theorem dX3_looks_60 : decode cX3_looks 60 = .ok (.bipush 38, 2) := by decide +kernel
theorem dX3_looks_62 : decode cX3_looks 62 = .ok (.iaload, 1) := by decide +kernel
theorem dX3_looks_63 : decode cX3_looks 63 = .ok (.if_icmp .ge 7, 3) := by decide +kernel
theorem dX3_looks_66 : decode cX3_looks 66 = .ok (.iload_n 1, 1) := by decide +kernel
theorem dX3_looks_67 : decode cX3_looks 67 = .ok (.goto 10, 3) := by decide +kernel
theorem dX3_looks_70 : decode cX3_looks 70 = .ok (.aload_n 0, 1) := by decide +kernel
theorem dX3_looks_71 : decode cX3_looks 71 = .ok (.getfield 7, 3) := by decide +kernel
theorem dX3_looks_74 : decode cX3_looks 74 = .ok (.bipush 38, 2) := by decide +kernel
theorem dX3_looks_76 : decode cX3_looks 76 = .ok (.iaload, 1) := by decide +kernel
theorem dX3_looks_77 : decode cX3_looks 77 = .ok (.istore_n 2, 1) := by decide +kernel
theorem dX3_looks_78 : decode cX3_looks 78 = .ok (.aload_n 0, 1) := by decide +kernel
theorem dX3_looks_79 : decode cX3_looks 79 = .ok (.getfield 7, 3) := by decide +kernel
theorem dX3_looks_82 : decode cX3_looks 82 = .ok (.bipush 39, 2) := by decide +kernel
theorem dX3_looks_84 : decode cX3_looks 84 = .ok (.dup2, 1) := by decide +kernel
theorem dX3_looks_85 : decode cX3_looks 85 = .ok (.iaload, 1) := by decide +kernel
theorem dX3_looks_86 : decode cX3_looks 86 = .ok (.iload_n 2, 1) := by decide +kernel
theorem dX3_looks_87 : decode cX3_looks 87 = .ok (.aload_n 0, 1) := by decide +kernel
theorem dX3_looks_88 : decode cX3_looks 88 = .ok (.getfield 7, 3) := by decide +kernel
theorem dX3_looks_91 : decode cX3_looks 91 = .ok (.bipush 37, 2) := by decide +kernel
theorem dX3_looks_93 : decode cX3_looks 93 = .ok (.iaload, 1) := by decide +kernel
theorem dX3_looks_94 : decode cX3_looks 94 = .ok (.imul, 1) := by decide +kernel
theorem dX3_looks_95 : decode cX3_looks 95 = .ok (.iadd, 1) := by decide +kernel
theorem dX3_looks_96 : decode cX3_looks 96 = .ok (.iastore, 1) := by decide +kernel
theorem dX3_looks_97 : decode cX3_looks 97 = .ok (.aload_n 0, 1) := by decide +kernel
theorem dX3_looks_98 : decode cX3_looks 98 = .ok (.getfield 7, 3) := by decide +kernel
theorem dX3_looks_101 : decode cX3_looks 101 = .ok (.bipush 52, 2) := by decide +kernel
theorem dX3_looks_103 : decode cX3_looks 103 = .ok (.dup2, 1) := by decide +kernel
theorem dX3_looks_104 : decode cX3_looks 104 = .ok (.iaload, 1) := by decide +kernel
theorem dX3_looks_105 : decode cX3_looks 105 = .ok (.iload_n 2, 1) := by decide +kernel
theorem dX3_looks_106 : decode cX3_looks 106 = .ok (.iadd, 1) := by decide +kernel
theorem dX3_looks_107 : decode cX3_looks 107 = .ok (.iastore, 1) := by decide +kernel
theorem dX3_looks_108 : decode cX3_looks 108 = .ok (.aload_n 0, 1) := by decide +kernel
theorem dX3_looks_109 : decode cX3_looks 109 = .ok (.getfield 7, 3) := by decide +kernel
theorem dX3_looks_112 : decode cX3_looks 112 = .ok (.bipush 39, 2) := by decide +kernel
theorem dX3_looks_114 : decode cX3_looks 114 = .ok (.aload_n 0, 1) := by decide +kernel
theorem dX3_looks_115 : decode cX3_looks 115 = .ok (.getfield 7, 3) := by decide +kernel
theorem dX3_looks_118 : decode cX3_looks 118 = .ok (.bipush 39, 2) := by decide +kernel
theorem dX3_looks_120 : decode cX3_looks 120 = .ok (.iaload, 1) := by decide +kernel
theorem dX3_looks_121 : decode cX3_looks 121 = .ok (.sipush 500, 3) := by decide +kernel
theorem dX3_looks_124 : decode cX3_looks 124 = .ok (.if_icmp .ge 9, 3) := by decide +kernel
theorem dX3_looks_127 : decode cX3_looks 127 = .ok (.sipush 500, 3) := by decide +kernel
theorem dX3_looks_130 : decode cX3_looks 130 = .ok (.goto 29, 3) := by decide +kernel
theorem dX3_looks_133 : decode cX3_looks 133 = .ok (.aload_n 0, 1) := by decide +kernel
theorem dX3_looks_134 : decode cX3_looks 134 = .ok (.getfield 7, 3) := by decide +kernel
theorem dX3_looks_137 : decode cX3_looks 137 = .ok (.bipush 39, 2) := by decide +kernel
theorem dX3_looks_139 : decode cX3_looks 139 = .ok (.iaload, 1) := by decide +kernel
theorem dX3_looks_140 : decode cX3_looks 140 = .ok (.sipush 1200, 3) := by decide +kernel
theorem dX3_looks_143 : decode cX3_looks 143 = .ok (.if_icmp .le 9, 3) := by decide +kernel
theorem dX3_looks_146 : decode cX3_looks 146 = .ok (.sipush 1200, 3) := by decide +kernel
theorem dX3_looks_149 : decode cX3_looks 149 = .ok (.goto 10, 3) := by decide +kernel
theorem dX3_looks_152 : decode cX3_looks 152 = .ok (.aload_n 0, 1) := by decide +kernel
theorem dX3_looks_153 : decode cX3_looks 153 = .ok (.getfield 7, 3) := by decide +kernel
theorem dX3_looks_156 : decode cX3_looks 156 = .ok (.bipush 39, 2) := by decide +kernel
theorem dX3_looks_158 : decode cX3_looks 158 = .ok (.iaload, 1) := by decide +kernel
theorem dX3_looks_159 : decode cX3_looks 159 = .ok (.iastore, 1) := by decide +kernel
theorem dX3_looks_160 : decode cX3_looks 160 = .ok (.aload_n 0, 1) := by decide +kernel
theorem dX3_looks_161 : decode cX3_looks 161 = .ok (.getfield 7, 3) := by decide +kernel
theorem dX3_looks_164 : decode cX3_looks 164 = .ok (.bipush 47, 2) := by decide +kernel
theorem dX3_looks_166 : decode cX3_looks 166 = .ok (.iconst 0, 1) := by decide +kernel
theorem dX3_looks_167 : decode cX3_looks 167 = .ok (.iastore, 1) := by decide +kernel
theorem dX3_looks_168 : decode cX3_looks 168 = .ok (.aload_n 0, 1) := by decide +kernel
theorem dX3_looks_169 : decode cX3_looks 169 = .ok (.getfield 7, 3) := by decide +kernel
theorem dX3_looks_172 : decode cX3_looks 172 = .ok (.bipush 48, 2) := by decide +kernel
theorem dX3_looks_174 : decode cX3_looks 174 = .ok (.iconst 0, 1) := by decide +kernel
theorem dX3_looks_175 : decode cX3_looks 175 = .ok (.iastore, 1) := by decide +kernel
theorem dX3_looks_176 : decode cX3_looks 176 = .ok (.return_, 1) := by decide +kernel
theorem dX3_cycles_0 : decode cX3_cycles 0 = .ok (.aload_n 0, 1) := by decide +kernel
theorem dX3_cycles_1 : decode cX3_cycles 1 = .ok (.getfield 7, 3) := by decide +kernel
theorem dX3_cycles_4 : decode cX3_cycles 4 = .ok (.bipush 16, 2) := by decide +kernel
theorem dX3_cycles_6 : decode cX3_cycles 6 = .ok (.aload_n 0, 1) := by decide +kernel
theorem dX3_cycles_7 : decode cX3_cycles 7 = .ok (.getfield 7, 3) := by decide +kernel
theorem dX3_cycles_10 : decode cX3_cycles 10 = .ok (.bipush 50, 2) := by decide +kernel
theorem dX3_cycles_12 : decode cX3_cycles 12 = .ok (.iaload, 1) := by decide +kernel
theorem dX3_cycles_13 : decode cX3_cycles 13 = .ok (.iadd, 1) := by decide +kernel
theorem dX3_cycles_14 : decode cX3_cycles 14 = .ok (.iaload, 1) := by decide +kernel
theorem dX3_cycles_15 : decode cX3_cycles 15 = .ok (.istore_n 1, 1) := by decide +kernel
theorem dX3_cycles_16 : decode cX3_cycles 16 = .ok (.aload_n 0, 1) := by decide +kernel
theorem dX3_cycles_17 : decode cX3_cycles 17 = .ok (.iload_n 1, 1) := by decide +kernel
theorem dX3_cycles_18 : decode cX3_cycles 18 = .ok (.invokevirtual 55, 3) := by decide +kernel
theorem dX3_cycles_21 : decode cX3_cycles 21 = .ok (.istore_n 2, 1) := by decide +kernel
theorem dX3_cycles_22 : decode cX3_cycles 22 = .ok (.aload_n 0, 1) := by decide +kernel
theorem dX3_cycles_23 : decode cX3_cycles 23 = .ok (.getfield 7, 3) := by decide +kernel
theorem dX3_cycles_26 : decode cX3_cycles 26 = .ok (.bipush 50, 2) := by decide +kernel
theorem dX3_cycles_28 : decode cX3_cycles 28 = .ok (.aload_n 0, 1) := by decide +kernel
theorem dX3_cycles_29 : decode cX3_cycles 29 = .ok (.getfield 7, 3) := by decide +kernel
theorem dX3_cycles_32 : decode cX3_cycles 32 = .ok (.bipush 50, 2) := by decide +kernel
theorem dX3_cycles_34 : decode cX3_cycles 34 = .ok (.iaload, 1) := by decide +kernel
theorem dX3_cycles_35 : decode cX3_cycles 35 = .ok (.iconst 1, 1) := by decide +kernel
theorem dX3_cycles_36 : decode cX3_cycles 36 = .ok (.iadd, 1) := by decide +kernel
theorem dX3_cycles_37 : decode cX3_cycles 37 = .ok (.aload_n 0, 1) := by decide +kernel
theorem dX3_cycles_38 : decode cX3_cycles 38 = .ok (.getfield 7, 3) := by decide +kernel
theorem dX3_cycles_41 : decode cX3_cycles 41 = .ok (.bipush 49, 2) := by decide +kernel
theorem dX3_cycles_43 : decode cX3_cycles 43 = .ok (.iaload, 1) := by decide +kernel
theorem dX3_cycles_44 : decode cX3_cycles 44 = .ok (.irem, 1) := by decide +kernel
theorem dX3_cycles_45 : decode cX3_cycles 45 = .ok (.iastore, 1) := by decide +kernel
theorem dX3_cycles_46 : decode cX3_cycles 46 = .ok (.iconst 0, 1) := by decide +kernel
theorem dX3_cycles_47 : decode cX3_cycles 47 = .ok (.istore_n 3, 1) := by decide +kernel
theorem dX3_cycles_48 : decode cX3_cycles 48 = .ok (.iload_n 3, 1) := by decide +kernel
theorem dX3_cycles_49 : decode cX3_cycles 49 = .ok (.aload_n 0, 1) := by decide +kernel
theorem dX3_cycles_50 : decode cX3_cycles 50 = .ok (.getfield 7, 3) := by decide +kernel
theorem dX3_cycles_53 : decode cX3_cycles 53 = .ok (.bipush 51, 2) := by decide +kernel
theorem dX3_cycles_55 : decode cX3_cycles 55 = .ok (.iaload, 1) := by decide +kernel
theorem dX3_cycles_56 : decode cX3_cycles 56 = .ok (.if_icmp .ge 34, 3) := by decide +kernel
theorem dX3_cycles_59 : decode cX3_cycles 59 = .ok (.aload_n 0, 1) := by decide +kernel
theorem dX3_cycles_60 : decode cX3_cycles 60 = .ok (.getfield 7, 3) := by decide +kernel
theorem dX3_cycles_63 : decode cX3_cycles 63 = .ok (.bipush 8, 2) := by decide +kernel
theorem dX3_cycles_65 : decode cX3_cycles 65 = .ok (.iload_n 3, 1) := by decide +kernel
theorem dX3_cycles_66 : decode cX3_cycles 66 = .ok (.iadd, 1) := by decide +kernel
theorem dX3_cycles_67 : decode cX3_cycles 67 = .ok (.dup2, 1) := by decide +kernel
theorem dX3_cycles_68 : decode cX3_cycles 68 = .ok (.iaload, 1) := by decide +kernel
theorem dX3_cycles_69 : decode cX3_cycles 69 = .ok (.iload_n 1, 1) := by decide +kernel
theorem dX3_cycles_70 : decode cX3_cycles 70 = .ok (.iload_n 3, 1) := by decide +kernel
theorem dX3_cycles_71 : decode cX3_cycles 71 = .ok (.invokestatic 47, 3) := by decide +kernel
theorem dX3_cycles_74 : decode cX3_cycles 74 = .ok (.ifCond .eq 7, 3) := by decide +kernel
theorem dX3_cycles_77 : decode cX3_cycles 77 = .ok (.iconst 1, 1) := by decide +kernel
theorem dX3_cycles_78 : decode cX3_cycles 78 = .ok (.goto 4, 3) := by decide +kernel
theorem dX3_cycles_81 : decode cX3_cycles 81 = .ok (.iconst 0, 1) := by decide +kernel
theorem dX3_cycles_82 : decode cX3_cycles 82 = .ok (.iadd, 1) := by decide +kernel
theorem dX3_cycles_83 : decode cX3_cycles 83 = .ok (.iastore, 1) := by decide +kernel
theorem dX3_cycles_84 : decode cX3_cycles 84 = .ok (.iinc 3 1, 3) := by decide +kernel
theorem dX3_cycles_87 : decode cX3_cycles 87 = .ok (.goto (-39), 3) := by decide +kernel
theorem dX3_cycles_90 : decode cX3_cycles 90 = .ok (.aload_n 0, 1) := by decide +kernel
theorem dX3_cycles_91 : decode cX3_cycles 91 = .ok (.iload_n 1, 1) := by decide +kernel
theorem dX3_cycles_92 : decode cX3_cycles 92 = .ok (.invokestatic 59, 3) := by decide +kernel
theorem dX3_cycles_95 : decode cX3_cycles 95 = .ok (.invokevirtual 62, 3) := by decide +kernel
theorem dX3_cycles_98 : decode cX3_cycles 98 = .ok (.iload_n 2, 1) := by decide +kernel
theorem dX3_cycles_99 : decode cX3_cycles 99 = .ok (.iconst 2, 1) := by decide +kernel
theorem dX3_cycles_100 : decode cX3_cycles 100 = .ok (.if_icmp .ne 17, 3) := by decide +kernel
theorem dX3_cycles_103 : decode cX3_cycles 103 = .ok (.aload_n 0, 1) := by decide +kernel
theorem dX3_cycles_104 : decode cX3_cycles 104 = .ok (.getfield 7, 3) := by decide +kernel
theorem dX3_cycles_107 : decode cX3_cycles 107 = .ok (.bipush 45, 2) := by decide +kernel
theorem dX3_cycles_109 : decode cX3_cycles 109 = .ok (.dup2, 1) := by decide +kernel
theorem dX3_cycles_110 : decode cX3_cycles 110 = .ok (.iaload, 1) := by decide +kernel
theorem dX3_cycles_111 : decode cX3_cycles 111 = .ok (.iconst 1, 1) := by decide +kernel
theorem dX3_cycles_112 : decode cX3_cycles 112 = .ok (.iadd, 1) := by decide +kernel
theorem dX3_cycles_113 : decode cX3_cycles 113 = .ok (.iastore, 1) := by decide +kernel
theorem dX3_cycles_114 : decode cX3_cycles 114 = .ok (.goto 14, 3) := by decide +kernel
theorem dX3_cycles_117 : decode cX3_cycles 117 = .ok (.aload_n 0, 1) := by decide +kernel
theorem dX3_cycles_118 : decode cX3_cycles 118 = .ok (.getfield 7, 3) := by decide +kernel
theorem dX3_cycles_121 : decode cX3_cycles 121 = .ok (.bipush 43, 2) := by decide +kernel
theorem dX3_cycles_123 : decode cX3_cycles 123 = .ok (.dup2, 1) := by decide +kernel
theorem dX3_cycles_124 : decode cX3_cycles 124 = .ok (.iaload, 1) := by decide +kernel
theorem dX3_cycles_125 : decode cX3_cycles 125 = .ok (.iconst 1, 1) := by decide +kernel
theorem dX3_cycles_126 : decode cX3_cycles 126 = .ok (.iadd, 1) := by decide +kernel
theorem dX3_cycles_127 : decode cX3_cycles 127 = .ok (.iastore, 1) := by decide +kernel
theorem dX3_cycles_128 : decode cX3_cycles 128 = .ok (.iload_n 2, 1) := by decide +kernel
theorem dX3_cycles_129 : decode cX3_cycles 129 = .ok (.iconst 1, 1) := by decide +kernel
theorem dX3_cycles_130 : decode cX3_cycles 130 = .ok (.if_icmp .ne 55, 3) := by decide +kernel
theorem dX3_cycles_133 : decode cX3_cycles 133 = .ok (.aload_n 0, 1) := by decide +kernel
theorem dX3_cycles_134 : decode cX3_cycles 134 = .ok (.getfield 7, 3) := by decide +kernel
theorem dX3_cycles_137 : decode cX3_cycles 137 = .ok (.bipush 44, 2) := by decide +kernel
theorem dX3_cycles_139 : decode cX3_cycles 139 = .ok (.dup2, 1) := by decide +kernel
theorem dX3_cycles_140 : decode cX3_cycles 140 = .ok (.iaload, 1) := by decide +kernel
theorem dX3_cycles_141 : decode cX3_cycles 141 = .ok (.iconst 1, 1) := by decide +kernel
theorem dX3_cycles_142 : decode cX3_cycles 142 = .ok (.iadd, 1) := by decide +kernel
theorem dX3_cycles_143 : decode cX3_cycles 143 = .ok (.iastore, 1) := by decide +kernel
theorem dX3_cycles_144 : decode cX3_cycles 144 = .ok (.aload_n 0, 1) := by decide +kernel
theorem dX3_cycles_145 : decode cX3_cycles 145 = .ok (.getfield 7, 3) := by decide +kernel
theorem dX3_cycles_148 : decode cX3_cycles 148 = .ok (.bipush 48, 2) := by decide +kernel
theorem dX3_cycles_150 : decode cX3_cycles 150 = .ok (.dup2, 1) := by decide +kernel
theorem dX3_cycles_151 : decode cX3_cycles 151 = .ok (.iaload, 1) := by decide +kernel
theorem dX3_cycles_152 : decode cX3_cycles 152 = .ok (.aload_n 0, 1) := by decide +kernel
theorem dX3_cycles_153 : decode cX3_cycles 153 = .ok (.getfield 7, 3) := by decide +kernel
theorem dX3_cycles_156 : decode cX3_cycles 156 = .ok (.bipush 41, 2) := by decide +kernel
theorem dX3_cycles_158 : decode cX3_cycles 158 = .ok (.iaload, 1) := by decide +kernel
theorem dX3_cycles_159 : decode cX3_cycles 159 = .ok (.iadd, 1) := by decide +kernel
theorem dX3_cycles_160 : decode cX3_cycles 160 = .ok (.iastore, 1) := by decide +kernel
theorem dX3_cycles_161 : decode cX3_cycles 161 = .ok (.iconst 0, 1) := by decide +kernel
theorem dX3_cycles_162 : decode cX3_cycles 162 = .ok (.istore_n 3, 1) := by decide +kernel
theorem dX3_cycles_163 : decode cX3_cycles 163 = .ok (.iload_n 3, 1) := by decide +kernel
theorem dX3_cycles_164 : decode cX3_cycles 164 = .ok (.aload_n 0, 1) := by decide +kernel
theorem dX3_cycles_165 : decode cX3_cycles 165 = .ok (.getfield 7, 3) := by decide +kernel
theorem dX3_cycles_168 : decode cX3_cycles 168 = .ok (.bipush 34, 2) := by decide +kernel
theorem dX3_cycles_170 : decode cX3_cycles 170 = .ok (.iaload, 1) := by decide +kernel
theorem dX3_cycles_171 : decode cX3_cycles 171 = .ok (.if_icmp .ge 14, 3) := by decide +kernel
theorem dX3_cycles_174 : decode cX3_cycles 174 = .ok (.aload_n 0, 1) := by decide +kernel
theorem dX3_cycles_175 : decode cX3_cycles 175 = .ok (.iconst 0, 1) := by decide +kernel
theorem dX3_cycles_176 : decode cX3_cycles 176 = .ok (.invokevirtual 62, 3) := by decide +kernel
theorem dX3_cycles_179 : decode cX3_cycles 179 = .ok (.iinc 3 1, 3) := by decide +kernel
theorem dX3_cycles_182 : decode cX3_cycles 182 = .ok (.goto (-19), 3) := by decide +kernel
theorem dX3_cycles_185 : decode cX3_cycles 185 = .ok (.aload_n 0, 1) := by decide +kernel
theorem dX3_cycles_186 : decode cX3_cycles 186 = .ok (.getfield 7, 3) := by decide +kernel
theorem dX3_cycles_189 : decode cX3_cycles 189 = .ok (.bipush 41, 2) := by decide +kernel
theorem dX3_cycles_191 : decode cX3_cycles 191 = .ok (.iaload, 1) := by decide +kernel
theorem dX3_cycles_192 : decode cX3_cycles 192 = .ok (.iconst 1, 1) := by decide +kernel
theorem dX3_cycles_193 : decode cX3_cycles 193 = .ok (.if_icmp .ne 24, 3) := by decide +kernel
theorem dX3_cycles_196 : decode cX3_cycles 196 = .ok (.aload_n 0, 1) := by decide +kernel
theorem dX3_cycles_197 : decode cX3_cycles 197 = .ok (.getfield 7, 3) := by decide +kernel
theorem dX3_cycles_200 : decode cX3_cycles 200 = .ok (.bipush 47, 2) := by decide +kernel
theorem dX3_cycles_202 : decode cX3_cycles 202 = .ok (.iaload, 1) := by decide +kernel
theorem dX3_cycles_203 : decode cX3_cycles 203 = .ok (.aload_n 0, 1) := by decide +kernel
theorem dX3_cycles_204 : decode cX3_cycles 204 = .ok (.getfield 7, 3) := by decide +kernel
theorem dX3_cycles_207 : decode cX3_cycles 207 = .ok (.bipush 35, 2) := by decide +kernel
theorem dX3_cycles_209 : decode cX3_cycles 209 = .ok (.iaload, 1) := by decide +kernel
theorem dX3_cycles_210 : decode cX3_cycles 210 = .ok (.if_icmp .lt 7, 3) := by decide +kernel
theorem dX3_cycles_213 : decode cX3_cycles 213 = .ok (.aload_n 0, 1) := by decide +kernel
theorem dX3_cycles_214 : decode cX3_cycles 214 = .ok (.invokevirtual 66, 3) := by decide +kernel
theorem dX3_cycles_217 : decode cX3_cycles 217 = .ok (.return_, 1) := by decide +kernel
theorem dX3_isLength_0 : decode cX3_isLength 0 = .ok (.iload_n 0, 1) := by decide +kernel
theorem dX3_isLength_1 : decode cX3_isLength 1 = .ok (.i2l, 1) := by decide +kernel
theorem dX3_isLength_2 : decode cX3_isLength 2 = .ok (.ldc2_w 69, 3) := by decide +kernel
theorem dX3_isLength_5 : decode cX3_isLength 5 = .ok (.ldc2_w 71, 3) := by decide +kernel
theorem dX3_isLength_8 : decode cX3_isLength 8 = .ok (.invokestatic 39, 3) := by decide +kernel
theorem dX3_isLength_11 : decode cX3_isLength 11 = .ok (.ireturn, 1) := by decide +kernel
theorem dX3_addPath_0 : decode cX3_addPath 0 = .ok (.iload_n 1, 1) := by decide +kernel
theorem dX3_addPath_1 : decode cX3_addPath 1 = .ok (.invokestatic 73, 3) := by decide +kernel
theorem dX3_addPath_4 : decode cX3_addPath 4 = .ok (.ifCond .ne 6, 3) := by decide +kernel
theorem dX3_addPath_7 : decode cX3_addPath 7 = .ok (.bipush (-2), 2) := by decide +kernel
theorem dX3_addPath_9 : decode cX3_addPath 9 = .ok (.ireturn, 1) := by decide +kernel
theorem dX3_addPath_10 : decode cX3_addPath 10 = .ok (.aload_n 0, 1) := by decide +kernel
theorem dX3_addPath_11 : decode cX3_addPath 11 = .ok (.getfield 7, 3) := by decide +kernel
theorem dX3_addPath_14 : decode cX3_addPath 14 = .ok (.bipush 51, 2) := by decide +kernel
theorem dX3_addPath_16 : decode cX3_addPath 16 = .ok (.iaload, 1) := by decide +kernel
theorem dX3_addPath_17 : decode cX3_addPath 17 = .ok (.bipush 8, 2) := by decide +kernel
theorem dX3_addPath_19 : decode cX3_addPath 19 = .ok (.if_icmp .ne 6, 3) := by decide +kernel
theorem dX3_addPath_22 : decode cX3_addPath 22 = .ok (.bipush (-3), 2) := by decide +kernel
theorem dX3_addPath_24 : decode cX3_addPath 24 = .ok (.ireturn, 1) := by decide +kernel
theorem dX3_addPath_25 : decode cX3_addPath 25 = .ok (.aload_n 0, 1) := by decide +kernel
theorem dX3_addPath_26 : decode cX3_addPath 26 = .ok (.invokevirtual 77, 3) := by decide +kernel
theorem dX3_addPath_29 : decode cX3_addPath 29 = .ok (.aload_n 0, 1) := by decide +kernel
theorem dX3_addPath_30 : decode cX3_addPath 30 = .ok (.getfield 7, 3) := by decide +kernel
theorem dX3_addPath_33 : decode cX3_addPath 33 = .ok (.iconst 0, 1) := by decide +kernel
theorem dX3_addPath_34 : decode cX3_addPath 34 = .ok (.aload_n 0, 1) := by decide +kernel
theorem dX3_addPath_35 : decode cX3_addPath 35 = .ok (.getfield 7, 3) := by decide +kernel
theorem dX3_addPath_38 : decode cX3_addPath 38 = .ok (.bipush 51, 2) := by decide +kernel
theorem dX3_addPath_40 : decode cX3_addPath 40 = .ok (.iaload, 1) := by decide +kernel
theorem dX3_addPath_41 : decode cX3_addPath 41 = .ok (.iadd, 1) := by decide +kernel
theorem dX3_addPath_42 : decode cX3_addPath 42 = .ok (.iload_n 1, 1) := by decide +kernel
theorem dX3_addPath_43 : decode cX3_addPath 43 = .ok (.iastore, 1) := by decide +kernel
theorem dX3_addPath_44 : decode cX3_addPath 44 = .ok (.aload_n 0, 1) := by decide +kernel
theorem dX3_addPath_45 : decode cX3_addPath 45 = .ok (.getfield 7, 3) := by decide +kernel
theorem dX3_addPath_48 : decode cX3_addPath 48 = .ok (.bipush 51, 2) := by decide +kernel
theorem dX3_addPath_50 : decode cX3_addPath 50 = .ok (.dup2, 1) := by decide +kernel
theorem dX3_addPath_51 : decode cX3_addPath 51 = .ok (.iaload, 1) := by decide +kernel
theorem dX3_addPath_52 : decode cX3_addPath 52 = .ok (.iconst 1, 1) := by decide +kernel
theorem dX3_addPath_53 : decode cX3_addPath 53 = .ok (.iadd, 1) := by decide +kernel
theorem dX3_addPath_54 : decode cX3_addPath 54 = .ok (.iastore, 1) := by decide +kernel
theorem dX3_addPath_55 : decode cX3_addPath 55 = .ok (.aload_n 0, 1) := by decide +kernel
theorem dX3_addPath_56 : decode cX3_addPath 56 = .ok (.aload_n 0, 1) := by decide +kernel
theorem dX3_addPath_57 : decode cX3_addPath 57 = .ok (.getfield 7, 3) := by decide +kernel
theorem dX3_addPath_60 : decode cX3_addPath 60 = .ok (.bipush 51, 2) := by decide +kernel
theorem dX3_addPath_62 : decode cX3_addPath 62 = .ok (.iaload, 1) := by decide +kernel
theorem dX3_addPath_63 : decode cX3_addPath 63 = .ok (.iconst 1, 1) := by decide +kernel
theorem dX3_addPath_64 : decode cX3_addPath 64 = .ok (.isub, 1) := by decide +kernel
theorem dX3_addPath_65 : decode cX3_addPath 65 = .ok (.invokevirtual 80, 3) := by decide +kernel
theorem dX3_addPath_68 : decode cX3_addPath 68 = .ok (.ireturn, 1) := by decide +kernel
theorem dX3_sets_0 : decode cX3_sets 0 = .ok (.aload_n 0, 1) := by decide +kernel
theorem dX3_sets_1 : decode cX3_sets 1 = .ok (.getfield 7, 3) := by decide +kernel
theorem dX3_sets_4 : decode cX3_sets 4 = .ok (.iload_n 1, 1) := by decide +kernel
theorem dX3_sets_5 : decode cX3_sets 5 = .ok (.iaload, 1) := by decide +kernel
theorem dX3_sets_6 : decode cX3_sets 6 = .ok (.istore_n 3, 1) := by decide +kernel
theorem dX3_sets_7 : decode cX3_sets 7 = .ok (.iload_n 3, 1) := by decide +kernel
theorem dX3_sets_8 : decode cX3_sets 8 = .ok (.iload_n 2, 1) := by decide +kernel
theorem dX3_sets_9 : decode cX3_sets 9 = .ok (.if_icmp .ne 6, 3) := by decide +kernel
theorem dX3_sets_12 : decode cX3_sets 12 = .ok (.bipush (-5), 2) := by decide +kernel
theorem dX3_sets_14 : decode cX3_sets 14 = .ok (.ireturn, 1) := by decide +kernel
theorem dX3_sets_15 : decode cX3_sets 15 = .ok (.aload_n 0, 1) := by decide +kernel
theorem dX3_sets_16 : decode cX3_sets 16 = .ok (.invokevirtual 77, 3) := by decide +kernel
theorem dX3_sets_19 : decode cX3_sets 19 = .ok (.aload_n 0, 1) := by decide +kernel
theorem dX3_sets_20 : decode cX3_sets 20 = .ok (.getfield 7, 3) := by decide +kernel
theorem dX3_sets_23 : decode cX3_sets 23 = .ok (.iload_n 1, 1) := by decide +kernel
theorem dX3_sets_24 : decode cX3_sets 24 = .ok (.iload_n 2, 1) := by decide +kernel
theorem dX3_sets_25 : decode cX3_sets 25 = .ok (.iastore, 1) := by decide +kernel
theorem dX3_sets_26 : decode cX3_sets 26 = .ok (.aload_n 0, 1) := by decide +kernel
theorem dX3_sets_27 : decode cX3_sets 27 = .ok (.iload_n 3, 1) := by decide +kernel
theorem dX3_sets_28 : decode cX3_sets 28 = .ok (.invokevirtual 80, 3) := by decide +kernel
theorem dX3_sets_31 : decode cX3_sets 31 = .ok (.ireturn, 1) := by decide +kernel
theorem dX3_setLength_0 : decode cX3_setLength 0 = .ok (.aload_n 0, 1) := by decide +kernel
theorem dX3_setLength_1 : decode cX3_setLength 1 = .ok (.iload_n 1, 1) := by decide +kernel
theorem dX3_setLength_2 : decode cX3_setLength 2 = .ok (.invokevirtual 83, 3) := by decide +kernel
theorem dX3_setLength_5 : decode cX3_setLength 5 = .ok (.ifCond .ne 5, 3) := by decide +kernel
theorem dX3_setLength_8 : decode cX3_setLength 8 = .ok (.iconst (-1), 1) := by decide +kernel
theorem dX3_setLength_9 : decode cX3_setLength 9 = .ok (.ireturn, 1) := by decide +kernel
theorem dX3_setLength_10 : decode cX3_setLength 10 = .ok (.iload_n 2, 1) := by decide +kernel
theorem dX3_setLength_11 : decode cX3_setLength 11 = .ok (.invokestatic 73, 3) := by decide +kernel
theorem dX3_setLength_14 : decode cX3_setLength 14 = .ok (.ifCond .eq 14, 3) := by decide +kernel
theorem dX3_setLength_17 : decode cX3_setLength 17 = .ok (.aload_n 0, 1) := by decide +kernel
theorem dX3_setLength_18 : decode cX3_setLength 18 = .ok (.iconst 0, 1) := by decide +kernel
theorem dX3_setLength_19 : decode cX3_setLength 19 = .ok (.iload_n 1, 1) := by decide +kernel
theorem dX3_setLength_20 : decode cX3_setLength 20 = .ok (.iadd, 1) := by decide +kernel
theorem dX3_setLength_21 : decode cX3_setLength 21 = .ok (.iload_n 2, 1) := by decide +kernel
theorem dX3_setLength_22 : decode cX3_setLength 22 = .ok (.invokevirtual 86, 3) := by decide +kernel
theorem dX3_setLength_25 : decode cX3_setLength 25 = .ok (.goto 5, 3) := by decide +kernel
theorem dX3_setLength_28 : decode cX3_setLength 28 = .ok (.bipush (-2), 2) := by decide +kernel
theorem dX3_setLength_30 : decode cX3_setLength 30 = .ok (.ireturn, 1) := by decide +kernel
theorem dX3_begins_0 : decode cX3_begins 0 = .ok (.aload_n 0, 1) := by decide +kernel
theorem dX3_begins_1 : decode cX3_begins 1 = .ok (.getfield 7, 3) := by decide +kernel
theorem dX3_begins_4 : decode cX3_begins 4 = .ok (.bipush 49, 2) := by decide +kernel
theorem dX3_begins_6 : decode cX3_begins 6 = .ok (.iload_n 1, 1) := by decide +kernel
theorem dX3_begins_7 : decode cX3_begins 7 = .ok (.iastore, 1) := by decide +kernel
theorem dX3_begins_8 : decode cX3_begins 8 = .ok (.aload_n 0, 1) := by decide +kernel
theorem dX3_begins_9 : decode cX3_begins 9 = .ok (.getfield 7, 3) := by decide +kernel
theorem dX3_begins_12 : decode cX3_begins 12 = .ok (.bipush 50, 2) := by decide +kernel
theorem dX3_begins_14 : decode cX3_begins 14 = .ok (.iconst 0, 1) := by decide +kernel
theorem dX3_begins_15 : decode cX3_begins 15 = .ok (.iastore, 1) := by decide +kernel
theorem dX3_begins_16 : decode cX3_begins 16 = .ok (.iload_n 1, 1) := by decide +kernel
theorem dX3_begins_17 : decode cX3_begins 17 = .ok (.istore_n 2, 1) := by decide +kernel
theorem dX3_begins_18 : decode cX3_begins 18 = .ok (.iload_n 2, 1) := by decide +kernel
theorem dX3_begins_19 : decode cX3_begins 19 = .ok (.bipush 16, 2) := by decide +kernel
theorem dX3_begins_21 : decode cX3_begins 21 = .ok (.if_icmp .ge 19, 3) := by decide +kernel
theorem dX3_begins_24 : decode cX3_begins 24 = .ok (.aload_n 0, 1) := by decide +kernel
theorem dX3_begins_25 : decode cX3_begins 25 = .ok (.getfield 7, 3) := by decide +kernel
theorem dX3_begins_28 : decode cX3_begins 28 = .ok (.bipush 16, 2) := by decide +kernel
theorem dX3_begins_30 : decode cX3_begins 30 = .ok (.iload_n 2, 1) := by decide +kernel
theorem dX3_begins_31 : decode cX3_begins 31 = .ok (.iadd, 1) := by decide +kernel
theorem dX3_begins_32 : decode cX3_begins 32 = .ok (.iconst 0, 1) := by decide +kernel
theorem dX3_begins_33 : decode cX3_begins 33 = .ok (.iastore, 1) := by decide +kernel
theorem dX3_begins_34 : decode cX3_begins 34 = .ok (.iinc 2 1, 3) := by decide +kernel
theorem dX3_begins_37 : decode cX3_begins 37 = .ok (.goto (-19), 3) := by decide +kernel
theorem dX3_begins_40 : decode cX3_begins 40 = .ok (.return_, 1) := by decide +kernel
theorem dX3_layWorkload_0 : decode cX3_layWorkload 0 = .ok (.iload_n 1, 1) := by decide +kernel
theorem dX3_layWorkload_1 : decode cX3_layWorkload 1 = .ok (.i2l, 1) := by decide +kernel
theorem dX3_layWorkload_2 : decode cX3_layWorkload 2 = .ok (.lconst 1, 1) := by decide +kernel
theorem dX3_layWorkload_3 : decode cX3_layWorkload 3 = .ok (.ldc2_w 89, 3) := by decide +kernel
theorem dX3_layWorkload_6 : decode cX3_layWorkload 6 = .ok (.invokestatic 39, 3) := by decide +kernel
theorem dX3_layWorkload_9 : decode cX3_layWorkload 9 = .ok (.ifCond .eq 15, 3) := by decide +kernel
theorem dX3_layWorkload_12 : decode cX3_layWorkload 12 = .ok (.iload_n 2, 1) := by decide +kernel
theorem dX3_layWorkload_13 : decode cX3_layWorkload 13 = .ok (.i2l, 1) := by decide +kernel
theorem dX3_layWorkload_14 : decode cX3_layWorkload 14 = .ok (.lconst 0, 1) := by decide +kernel
theorem dX3_layWorkload_15 : decode cX3_layWorkload 15 = .ok (.ldc2_w 91, 3) := by decide +kernel
theorem dX3_layWorkload_18 : decode cX3_layWorkload 18 = .ok (.invokestatic 39, 3) := by decide +kernel
theorem dX3_layWorkload_21 : decode cX3_layWorkload 21 = .ok (.ifCond .ne 6, 3) := by decide +kernel
theorem dX3_layWorkload_24 : decode cX3_layWorkload 24 = .ok (.bipush (-2), 2) := by decide +kernel
theorem dX3_layWorkload_26 : decode cX3_layWorkload 26 = .ok (.ireturn, 1) := by decide +kernel
theorem dX3_layWorkload_27 : decode cX3_layWorkload 27 = .ok (.aload_n 0, 1) := by decide +kernel
theorem dX3_layWorkload_28 : decode cX3_layWorkload 28 = .ok (.invokevirtual 77, 3) := by decide +kernel
theorem dX3_layWorkload_31 : decode cX3_layWorkload 31 = .ok (.iload_n 2, 1) := by decide +kernel
theorem dX3_layWorkload_32 : decode cX3_layWorkload 32 = .ok (.istore_n 3, 1) := by decide +kernel
theorem dX3_layWorkload_33 : decode cX3_layWorkload 33 = .ok (.iconst 0, 1) := by decide +kernel
theorem dX3_layWorkload_34 : decode cX3_layWorkload 34 = .ok (.istore 4, 2) := by decide +kernel
theorem dX3_layWorkload_36 : decode cX3_layWorkload 36 = .ok (.iconst 0, 1) := by decide +kernel
theorem dX3_layWorkload_37 : decode cX3_layWorkload 37 = .ok (.istore 5, 2) := by decide +kernel
theorem dX3_layWorkload_39 : decode cX3_layWorkload 39 = .ok (.iload 5, 2) := by decide +kernel
theorem dX3_layWorkload_41 : decode cX3_layWorkload 41 = .ok (.iload_n 1, 1) := by decide +kernel
theorem dX3_layWorkload_42 : decode cX3_layWorkload 42 = .ok (.if_icmp .ge 65, 3) := by decide +kernel
theorem dX3_layWorkload_45 : decode cX3_layWorkload 45 = .ok (.sipush 421, 3) := by decide +kernel
theorem dX3_layWorkload_48 : decode cX3_layWorkload 48 = .ok (.iload_n 3, 1) := by decide +kernel
theorem dX3_layWorkload_49 : decode cX3_layWorkload 49 = .ok (.imul, 1) := by decide +kernel
theorem dX3_layWorkload_50 : decode cX3_layWorkload 50 = .ok (.sipush 1663, 3) := by decide +kernel
theorem dX3_layWorkload_53 : decode cX3_layWorkload 53 = .ok (.iadd, 1) := by decide +kernel
theorem dX3_layWorkload_54 : decode cX3_layWorkload 54 = .ok (.sipush 10000, 3) := by decide +kernel
theorem dX3_layWorkload_57 : decode cX3_layWorkload 57 = .ok (.irem, 1) := by decide +kernel
theorem dX3_layWorkload_58 : decode cX3_layWorkload 58 = .ok (.istore_n 3, 1) := by decide +kernel
theorem dX3_layWorkload_59 : decode cX3_layWorkload 59 = .ok (.aload_n 0, 1) := by decide +kernel
theorem dX3_layWorkload_60 : decode cX3_layWorkload 60 = .ok (.getfield 7, 3) := by decide +kernel
theorem dX3_layWorkload_63 : decode cX3_layWorkload 63 = .ok (.bipush 16, 2) := by decide +kernel
theorem dX3_layWorkload_65 : decode cX3_layWorkload 65 = .ok (.iload 5, 2) := by decide +kernel
theorem dX3_layWorkload_67 : decode cX3_layWorkload 67 = .ok (.iadd, 1) := by decide +kernel
theorem dX3_layWorkload_68 : decode cX3_layWorkload 68 = .ok (.iload_n 3, 1) := by decide +kernel
theorem dX3_layWorkload_69 : decode cX3_layWorkload 69 = .ok (.bipush 16, 2) := by decide +kernel
theorem dX3_layWorkload_71 : decode cX3_layWorkload 71 = .ok (.idiv, 1) := by decide +kernel
theorem dX3_layWorkload_72 : decode cX3_layWorkload 72 = .ok (.iconst 1, 1) := by decide +kernel
theorem dX3_layWorkload_73 : decode cX3_layWorkload 73 = .ok (.aload_n 0, 1) := by decide +kernel
theorem dX3_layWorkload_74 : decode cX3_layWorkload 74 = .ok (.getfield 7, 3) := by decide +kernel
theorem dX3_layWorkload_77 : decode cX3_layWorkload 77 = .ok (.bipush 51, 2) := by decide +kernel
theorem dX3_layWorkload_79 : decode cX3_layWorkload 79 = .ok (.iaload, 1) := by decide +kernel
theorem dX3_layWorkload_80 : decode cX3_layWorkload 80 = .ok (.ishl, 1) := by decide +kernel
theorem dX3_layWorkload_81 : decode cX3_layWorkload 81 = .ok (.irem, 1) := by decide +kernel
theorem dX3_layWorkload_82 : decode cX3_layWorkload 82 = .ok (.iastore, 1) := by decide +kernel
theorem dX3_layWorkload_83 : decode cX3_layWorkload 83 = .ok (.iload 4, 2) := by decide +kernel
theorem dX3_layWorkload_85 : decode cX3_layWorkload 85 = .ok (.aload_n 0, 1) := by decide +kernel
theorem dX3_layWorkload_86 : decode cX3_layWorkload 86 = .ok (.getfield 7, 3) := by decide +kernel
theorem dX3_layWorkload_89 : decode cX3_layWorkload 89 = .ok (.bipush 16, 2) := by decide +kernel
theorem dX3_layWorkload_91 : decode cX3_layWorkload 91 = .ok (.iload 5, 2) := by decide +kernel
theorem dX3_layWorkload_93 : decode cX3_layWorkload 93 = .ok (.iadd, 1) := by decide +kernel
theorem dX3_layWorkload_94 : decode cX3_layWorkload 94 = .ok (.iaload, 1) := by decide +kernel
theorem dX3_layWorkload_95 : decode cX3_layWorkload 95 = .ok (.invokestatic 59, 3) := by decide +kernel
theorem dX3_layWorkload_98 : decode cX3_layWorkload 98 = .ok (.iadd, 1) := by decide +kernel
theorem dX3_layWorkload_99 : decode cX3_layWorkload 99 = .ok (.istore 4, 2) := by decide +kernel
theorem dX3_layWorkload_101 : decode cX3_layWorkload 101 = .ok (.iinc 5 1, 3) := by decide +kernel
theorem dX3_layWorkload_104 : decode cX3_layWorkload 104 = .ok (.goto (-65), 3) := by decide +kernel
theorem dX3_layWorkload_107 : decode cX3_layWorkload 107 = .ok (.aload_n 0, 1) := by decide +kernel
theorem dX3_layWorkload_108 : decode cX3_layWorkload 108 = .ok (.iload_n 1, 1) := by decide +kernel
theorem dX3_layWorkload_109 : decode cX3_layWorkload 109 = .ok (.invokevirtual 93, 3) := by decide +kernel
theorem dX3_layWorkload_112 : decode cX3_layWorkload 112 = .ok (.aload_n 0, 1) := by decide +kernel
theorem dX3_layWorkload_113 : decode cX3_layWorkload 113 = .ok (.iload 4, 2) := by decide +kernel
theorem dX3_layWorkload_115 : decode cX3_layWorkload 115 = .ok (.invokevirtual 80, 3) := by decide +kernel
theorem dX3_layWorkload_118 : decode cX3_layWorkload 118 = .ok (.ireturn, 1) := by decide +kernel
theorem dX3_type_0 : decode cX3_type 0 = .ok (.aload_n 0, 1) := by decide +kernel
theorem dX3_type_1 : decode cX3_type 1 = .ok (.getfield 96, 3) := by decide +kernel
theorem dX3_type_4 : decode cX3_type 4 = .ok (.bipush 60, 2) := by decide +kernel
theorem dX3_type_6 : decode cX3_type 6 = .ok (.if_icmp .ne 6, 3) := by decide +kernel
theorem dX3_type_9 : decode cX3_type 9 = .ok (.bipush (-3), 2) := by decide +kernel
theorem dX3_type_11 : decode cX3_type 11 = .ok (.ireturn, 1) := by decide +kernel
theorem dX3_type_12 : decode cX3_type 12 = .ok (.aload_n 0, 1) := by decide +kernel
theorem dX3_type_13 : decode cX3_type 13 = .ok (.getfield 25, 3) := by decide +kernel
theorem dX3_type_16 : decode cX3_type 16 = .ok (.aload_n 0, 1) := by decide +kernel
theorem dX3_type_17 : decode cX3_type 17 = .ok (.getfield 96, 3) := by decide +kernel
theorem dX3_type_20 : decode cX3_type 20 = .ok (.iload_n 1, 1) := by decide +kernel
theorem dX3_type_21 : decode cX3_type 21 = .ok (.iastore, 1) := by decide +kernel
theorem dX3_type_22 : decode cX3_type 22 = .ok (.aload_n 0, 1) := by decide +kernel
theorem dX3_type_23 : decode cX3_type 23 = .ok (.dup, 1) := by decide +kernel
theorem dX3_type_24 : decode cX3_type 24 = .ok (.getfield 96, 3) := by decide +kernel
theorem dX3_type_27 : decode cX3_type 27 = .ok (.iconst 1, 1) := by decide +kernel
theorem dX3_type_28 : decode cX3_type 28 = .ok (.iadd, 1) := by decide +kernel
theorem dX3_type_29 : decode cX3_type 29 = .ok (.putfield 96, 3) := by decide +kernel
theorem dX3_type_32 : decode cX3_type 32 = .ok (.aload_n 0, 1) := by decide +kernel
theorem dX3_type_33 : decode cX3_type 33 = .ok (.getfield 96, 3) := by decide +kernel
theorem dX3_type_36 : decode cX3_type 36 = .ok (.ireturn, 1) := by decide +kernel
theorem dX3_clearText_0 : decode cX3_clearText 0 = .ok (.aload_n 0, 1) := by decide +kernel
theorem dX3_clearText_1 : decode cX3_clearText 1 = .ok (.getfield 96, 3) := by decide +kernel
theorem dX3_clearText_4 : decode cX3_clearText 4 = .ok (.istore_n 1, 1) := by decide +kernel
theorem dX3_clearText_5 : decode cX3_clearText 5 = .ok (.aload_n 0, 1) := by decide +kernel
theorem dX3_clearText_6 : decode cX3_clearText 6 = .ok (.iconst 0, 1) := by decide +kernel
theorem dX3_clearText_7 : decode cX3_clearText 7 = .ok (.putfield 96, 3) := by decide +kernel
theorem dX3_clearText_10 : decode cX3_clearText 10 = .ok (.iload_n 1, 1) := by decide +kernel
theorem dX3_clearText_11 : decode cX3_clearText 11 = .ok (.ireturn, 1) := by decide +kernel
theorem dX3_isHere_0 : decode cX3_isHere 0 = .ok (.aload_n 0, 1) := by decide +kernel
theorem dX3_isHere_1 : decode cX3_isHere 1 = .ok (.getfield 99, 3) := by decide +kernel
theorem dX3_isHere_4 : decode cX3_isHere 4 = .ok (.aload_n 0, 1) := by decide +kernel
theorem dX3_isHere_5 : decode cX3_isHere 5 = .ok (.getfield 96, 3) := by decide +kernel
theorem dX3_isHere_8 : decode cX3_isHere 8 = .ok (.if_icmp .ge 27, 3) := by decide +kernel
theorem dX3_isHere_11 : decode cX3_isHere 11 = .ok (.aload_n 0, 1) := by decide +kernel
theorem dX3_isHere_12 : decode cX3_isHere 12 = .ok (.getfield 25, 3) := by decide +kernel
theorem dX3_isHere_15 : decode cX3_isHere 15 = .ok (.aload_n 0, 1) := by decide +kernel
theorem dX3_isHere_16 : decode cX3_isHere 16 = .ok (.getfield 99, 3) := by decide +kernel
theorem dX3_isHere_19 : decode cX3_isHere 19 = .ok (.iaload, 1) := by decide +kernel
theorem dX3_isHere_20 : decode cX3_isHere 20 = .ok (.i2l, 1) := by decide +kernel
theorem dX3_isHere_21 : decode cX3_isHere 21 = .ok (.iload_n 1, 1) := by decide +kernel
theorem dX3_isHere_22 : decode cX3_isHere 22 = .ok (.i2l, 1) := by decide +kernel
theorem dX3_isHere_23 : decode cX3_isHere 23 = .ok (.iload_n 2, 1) := by decide +kernel
theorem dX3_isHere_24 : decode cX3_isHere 24 = .ok (.i2l, 1) := by decide +kernel
theorem dX3_isHere_25 : decode cX3_isHere 25 = .ok (.invokestatic 39, 3) := by decide +kernel
theorem dX3_isHere_28 : decode cX3_isHere 28 = .ok (.ifCond .eq 7, 3) := by decide +kernel
theorem dX3_isHere_31 : decode cX3_isHere 31 = .ok (.iconst 1, 1) := by decide +kernel
theorem dX3_isHere_32 : decode cX3_isHere 32 = .ok (.goto 4, 3) := by decide +kernel
theorem dX3_isHere_35 : decode cX3_isHere 35 = .ok (.iconst 0, 1) := by decide +kernel
theorem dX3_isHere_36 : decode cX3_isHere 36 = .ok (.ireturn, 1) := by decide +kernel
theorem dX3_takes_0 : decode cX3_takes 0 = .ok (.aload_n 0, 1) := by decide +kernel
theorem dX3_takes_1 : decode cX3_takes 1 = .ok (.iload_n 1, 1) := by decide +kernel
theorem dX3_takes_2 : decode cX3_takes 2 = .ok (.iload_n 1, 1) := by decide +kernel
theorem dX3_takes_3 : decode cX3_takes 3 = .ok (.invokevirtual 102, 3) := by decide +kernel
theorem dX3_takes_6 : decode cX3_takes 6 = .ok (.istore_n 2, 1) := by decide +kernel
theorem dX3_takes_7 : decode cX3_takes 7 = .ok (.aload_n 0, 1) := by decide +kernel
theorem dX3_takes_8 : decode cX3_takes 8 = .ok (.dup, 1) := by decide +kernel
theorem dX3_takes_9 : decode cX3_takes 9 = .ok (.getfield 99, 3) := by decide +kernel
theorem dX3_takes_12 : decode cX3_takes 12 = .ok (.iload_n 2, 1) := by decide +kernel
theorem dX3_takes_13 : decode cX3_takes 13 = .ok (.ifCond .eq 7, 3) := by decide +kernel
theorem dX3_takes_16 : decode cX3_takes 16 = .ok (.iconst 1, 1) := by decide +kernel
theorem dX3_takes_17 : decode cX3_takes 17 = .ok (.goto 4, 3) := by decide +kernel
theorem dX3_takes_20 : decode cX3_takes 20 = .ok (.iconst 0, 1) := by decide +kernel
theorem dX3_takes_21 : decode cX3_takes 21 = .ok (.iadd, 1) := by decide +kernel
theorem dX3_takes_22 : decode cX3_takes 22 = .ok (.putfield 99, 3) := by decide +kernel
theorem dX3_takes_25 : decode cX3_takes 25 = .ok (.iload_n 2, 1) := by decide +kernel
theorem dX3_takes_26 : decode cX3_takes 26 = .ok (.ireturn, 1) := by decide +kernel
theorem dX3_readsSet_0 : decode cX3_readsSet 0 = .ok (.iconst 0, 1) := by decide +kernel
theorem dX3_readsSet_1 : decode cX3_readsSet 1 = .ok (.istore_n 1, 1) := by decide +kernel
theorem dX3_readsSet_2 : decode cX3_readsSet 2 = .ok (.aload_n 0, 1) := by decide +kernel
theorem dX3_readsSet_3 : decode cX3_readsSet 3 = .ok (.bipush 45, 2) := by decide +kernel
theorem dX3_readsSet_5 : decode cX3_readsSet 5 = .ok (.invokevirtual 105, 3) := by decide +kernel
theorem dX3_readsSet_8 : decode cX3_readsSet 8 = .ok (.ifCond .ne 63, 3) := by decide +kernel
theorem dX3_readsSet_11 : decode cX3_readsSet 11 = .ok (.aload_n 0, 1) := by decide +kernel
theorem dX3_readsSet_12 : decode cX3_readsSet 12 = .ok (.bipush 48, 2) := by decide +kernel
theorem dX3_readsSet_14 : decode cX3_readsSet 14 = .ok (.bipush 55, 2) := by decide +kernel
theorem dX3_readsSet_16 : decode cX3_readsSet 16 = .ok (.invokevirtual 102, 3) := by decide +kernel
theorem dX3_readsSet_19 : decode cX3_readsSet 19 = .ok (.ifCond .ne 5, 3) := by decide +kernel
theorem dX3_readsSet_22 : decode cX3_readsSet 22 = .ok (.iconst 0, 1) := by decide +kernel
theorem dX3_readsSet_23 : decode cX3_readsSet 23 = .ok (.ireturn, 1) := by decide +kernel
theorem dX3_readsSet_24 : decode cX3_readsSet 24 = .ok (.bipush 47, 2) := by decide +kernel
theorem dX3_readsSet_26 : decode cX3_readsSet 26 = .ok (.istore_n 2, 1) := by decide +kernel
theorem dX3_readsSet_27 : decode cX3_readsSet 27 = .ok (.aload_n 0, 1) := by decide +kernel
theorem dX3_readsSet_28 : decode cX3_readsSet 28 = .ok (.iload_n 2, 1) := by decide +kernel
theorem dX3_readsSet_29 : decode cX3_readsSet 29 = .ok (.iconst 1, 1) := by decide +kernel
theorem dX3_readsSet_30 : decode cX3_readsSet 30 = .ok (.iadd, 1) := by decide +kernel
theorem dX3_readsSet_31 : decode cX3_readsSet 31 = .ok (.bipush 55, 2) := by decide +kernel
theorem dX3_readsSet_33 : decode cX3_readsSet 33 = .ok (.invokevirtual 102, 3) := by decide +kernel
theorem dX3_readsSet_36 : decode cX3_readsSet 36 = .ok (.ifCond .eq 35, 3) := by decide +kernel
theorem dX3_readsSet_39 : decode cX3_readsSet 39 = .ok (.aload_n 0, 1) := by decide +kernel
theorem dX3_readsSet_40 : decode cX3_readsSet 40 = .ok (.getfield 25, 3) := by decide +kernel
theorem dX3_readsSet_43 : decode cX3_readsSet 43 = .ok (.aload_n 0, 1) := by decide +kernel
theorem dX3_readsSet_44 : decode cX3_readsSet 44 = .ok (.getfield 99, 3) := by decide +kernel
theorem dX3_readsSet_47 : decode cX3_readsSet 47 = .ok (.iaload, 1) := by decide +kernel
theorem dX3_readsSet_48 : decode cX3_readsSet 48 = .ok (.istore_n 2, 1) := by decide +kernel
theorem dX3_readsSet_49 : decode cX3_readsSet 49 = .ok (.iload_n 1, 1) := by decide +kernel
theorem dX3_readsSet_50 : decode cX3_readsSet 50 = .ok (.iconst 1, 1) := by decide +kernel
theorem dX3_readsSet_51 : decode cX3_readsSet 51 = .ok (.iload_n 2, 1) := by decide +kernel
theorem dX3_readsSet_52 : decode cX3_readsSet 52 = .ok (.bipush 48, 2) := by decide +kernel
theorem dX3_readsSet_54 : decode cX3_readsSet 54 = .ok (.isub, 1) := by decide +kernel
theorem dX3_readsSet_55 : decode cX3_readsSet 55 = .ok (.ishl, 1) := by decide +kernel
theorem dX3_readsSet_56 : decode cX3_readsSet 56 = .ok (.ior, 1) := by decide +kernel
theorem dX3_readsSet_57 : decode cX3_readsSet 57 = .ok (.istore_n 1, 1) := by decide +kernel
theorem dX3_readsSet_58 : decode cX3_readsSet 58 = .ok (.aload_n 0, 1) := by decide +kernel
theorem dX3_readsSet_59 : decode cX3_readsSet 59 = .ok (.dup, 1) := by decide +kernel
theorem dX3_readsSet_60 : decode cX3_readsSet 60 = .ok (.getfield 99, 3) := by decide +kernel
theorem dX3_readsSet_63 : decode cX3_readsSet 63 = .ok (.iconst 1, 1) := by decide +kernel
theorem dX3_readsSet_64 : decode cX3_readsSet 64 = .ok (.iadd, 1) := by decide +kernel
theorem dX3_readsSet_65 : decode cX3_readsSet 65 = .ok (.putfield 99, 3) := by decide +kernel
theorem dX3_readsSet_68 : decode cX3_readsSet 68 = .ok (.goto (-41), 3) := by decide +kernel
theorem dX3_readsSet_71 : decode cX3_readsSet 71 = .ok (.aload_n 0, 1) := by decide +kernel
theorem dX3_readsSet_72 : decode cX3_readsSet 72 = .ok (.getfield 28, 3) := by decide +kernel
theorem dX3_readsSet_75 : decode cX3_readsSet 75 = .ok (.aload_n 0, 1) := by decide +kernel
theorem dX3_readsSet_76 : decode cX3_readsSet 76 = .ok (.getfield 108, 3) := by decide +kernel
theorem dX3_readsSet_79 : decode cX3_readsSet 79 = .ok (.iload_n 1, 1) := by decide +kernel
theorem dX3_readsSet_80 : decode cX3_readsSet 80 = .ok (.iastore, 1) := by decide +kernel
theorem dX3_readsSet_81 : decode cX3_readsSet 81 = .ok (.aload_n 0, 1) := by decide +kernel
theorem dX3_readsSet_82 : decode cX3_readsSet 82 = .ok (.dup, 1) := by decide +kernel
theorem dX3_readsSet_83 : decode cX3_readsSet 83 = .ok (.getfield 108, 3) := by decide +kernel
theorem dX3_readsSet_86 : decode cX3_readsSet 86 = .ok (.iconst 1, 1) := by decide +kernel
theorem dX3_readsSet_87 : decode cX3_readsSet 87 = .ok (.iadd, 1) := by decide +kernel
theorem dX3_readsSet_88 : decode cX3_readsSet 88 = .ok (.putfield 108, 3) := by decide +kernel
theorem dX3_readsSet_91 : decode cX3_readsSet 91 = .ok (.iconst 1, 1) := by decide +kernel
theorem dX3_readsSet_92 : decode cX3_readsSet 92 = .ok (.ireturn, 1) := by decide +kernel
theorem dX3_fault_0 : decode cX3_fault 0 = .ok (.aload_n 0, 1) := by decide +kernel
theorem dX3_fault_1 : decode cX3_fault 1 = .ok (.iconst 0, 1) := by decide +kernel
theorem dX3_fault_2 : decode cX3_fault 2 = .ok (.putfield 99, 3) := by decide +kernel
theorem dX3_fault_5 : decode cX3_fault 5 = .ok (.aload_n 0, 1) := by decide +kernel
theorem dX3_fault_6 : decode cX3_fault 6 = .ok (.iconst 0, 1) := by decide +kernel
theorem dX3_fault_7 : decode cX3_fault 7 = .ok (.putfield 108, 3) := by decide +kernel
theorem dX3_fault_10 : decode cX3_fault 10 = .ok (.iconst 1, 1) := by decide +kernel
theorem dX3_fault_11 : decode cX3_fault 11 = .ok (.istore_n 1, 1) := by decide +kernel
theorem dX3_fault_12 : decode cX3_fault 12 = .ok (.iload_n 1, 1) := by decide +kernel
theorem dX3_fault_13 : decode cX3_fault 13 = .ok (.ifCond .eq 42, 3) := by decide +kernel
theorem dX3_fault_16 : decode cX3_fault 16 = .ok (.aload_n 0, 1) := by decide +kernel
theorem dX3_fault_17 : decode cX3_fault 17 = .ok (.invokevirtual 111, 3) := by decide +kernel
theorem dX3_fault_20 : decode cX3_fault 20 = .ok (.ifCond .ne 8, 3) := by decide +kernel
theorem dX3_fault_23 : decode cX3_fault 23 = .ok (.aload_n 0, 1) := by decide +kernel
theorem dX3_fault_24 : decode cX3_fault 24 = .ok (.getfield 99, 3) := by decide +kernel
theorem dX3_fault_27 : decode cX3_fault 27 = .ok (.ireturn, 1) := by decide +kernel
theorem dX3_fault_28 : decode cX3_fault 28 = .ok (.aload_n 0, 1) := by decide +kernel
theorem dX3_fault_29 : decode cX3_fault 29 = .ok (.getfield 108, 3) := by decide +kernel
theorem dX3_fault_32 : decode cX3_fault 32 = .ok (.bipush 16, 2) := by decide +kernel
theorem dX3_fault_34 : decode cX3_fault 34 = .ok (.if_icmp .ge 16, 3) := by decide +kernel
theorem dX3_fault_37 : decode cX3_fault 37 = .ok (.aload_n 0, 1) := by decide +kernel
theorem dX3_fault_38 : decode cX3_fault 38 = .ok (.bipush 44, 2) := by decide +kernel
theorem dX3_fault_40 : decode cX3_fault 40 = .ok (.invokevirtual 105, 3) := by decide +kernel
theorem dX3_fault_43 : decode cX3_fault 43 = .ok (.ifCond .eq 7, 3) := by decide +kernel
theorem dX3_fault_46 : decode cX3_fault 46 = .ok (.iconst 1, 1) := by decide +kernel
theorem dX3_fault_47 : decode cX3_fault 47 = .ok (.goto 4, 3) := by decide +kernel
theorem dX3_fault_50 : decode cX3_fault 50 = .ok (.iconst 0, 1) := by decide +kernel
theorem dX3_fault_51 : decode cX3_fault 51 = .ok (.istore_n 1, 1) := by decide +kernel
theorem dX3_fault_52 : decode cX3_fault 52 = .ok (.goto (-40), 3) := by decide +kernel
theorem dX3_fault_55 : decode cX3_fault 55 = .ok (.aload_n 0, 1) := by decide +kernel
theorem dX3_fault_56 : decode cX3_fault 56 = .ok (.getfield 99, 3) := by decide +kernel
theorem dX3_fault_59 : decode cX3_fault 59 = .ok (.aload_n 0, 1) := by decide +kernel
theorem dX3_fault_60 : decode cX3_fault 60 = .ok (.getfield 96, 3) := by decide +kernel
theorem dX3_fault_63 : decode cX3_fault 63 = .ok (.if_icmp .ne 8, 3) := by decide +kernel
theorem dX3_fault_66 : decode cX3_fault 66 = .ok (.bipush (-5), 2) := by decide +kernel
theorem dX3_fault_68 : decode cX3_fault 68 = .ok (.goto 7, 3) := by decide +kernel
theorem dX3_fault_71 : decode cX3_fault 71 = .ok (.aload_n 0, 1) := by decide +kernel
theorem dX3_fault_72 : decode cX3_fault 72 = .ok (.getfield 99, 3) := by decide +kernel
theorem dX3_fault_75 : decode cX3_fault 75 = .ok (.ireturn, 1) := by decide +kernel
theorem dX3_takeWorkload_0 : decode cX3_takeWorkload 0 = .ok (.aload_n 0, 1) := by decide +kernel
theorem dX3_takeWorkload_1 : decode cX3_takeWorkload 1 = .ok (.invokevirtual 115, 3) := by decide +kernel
theorem dX3_takeWorkload_4 : decode cX3_takeWorkload 4 = .ok (.istore_n 1, 1) := by decide +kernel
theorem dX3_takeWorkload_5 : decode cX3_takeWorkload 5 = .ok (.iload_n 1, 1) := by decide +kernel
theorem dX3_takeWorkload_6 : decode cX3_takeWorkload 6 = .ok (.bipush (-5), 2) := by decide +kernel
theorem dX3_takeWorkload_8 : decode cX3_takeWorkload 8 = .ok (.if_icmp .eq 8, 3) := by decide +kernel
theorem dX3_takeWorkload_11 : decode cX3_takeWorkload 11 = .ok (.bipush (-100), 2) := by decide +kernel
theorem dX3_takeWorkload_13 : decode cX3_takeWorkload 13 = .ok (.iload_n 1, 1) := by decide +kernel
theorem dX3_takeWorkload_14 : decode cX3_takeWorkload 14 = .ok (.isub, 1) := by decide +kernel
theorem dX3_takeWorkload_15 : decode cX3_takeWorkload 15 = .ok (.ireturn, 1) := by decide +kernel
theorem dX3_takeWorkload_16 : decode cX3_takeWorkload 16 = .ok (.iconst 0, 1) := by decide +kernel
theorem dX3_takeWorkload_17 : decode cX3_takeWorkload 17 = .ok (.istore_n 2, 1) := by decide +kernel
theorem dX3_takeWorkload_18 : decode cX3_takeWorkload 18 = .ok (.iload_n 2, 1) := by decide +kernel
theorem dX3_takeWorkload_19 : decode cX3_takeWorkload 19 = .ok (.aload_n 0, 1) := by decide +kernel
theorem dX3_takeWorkload_20 : decode cX3_takeWorkload 20 = .ok (.getfield 108, 3) := by decide +kernel
theorem dX3_takeWorkload_23 : decode cX3_takeWorkload 23 = .ok (.if_icmp .ge 29, 3) := by decide +kernel
theorem dX3_takeWorkload_26 : decode cX3_takeWorkload 26 = .ok (.aload_n 0, 1) := by decide +kernel
theorem dX3_takeWorkload_27 : decode cX3_takeWorkload 27 = .ok (.getfield 28, 3) := by decide +kernel
theorem dX3_takeWorkload_30 : decode cX3_takeWorkload 30 = .ok (.iload_n 2, 1) := by decide +kernel
theorem dX3_takeWorkload_31 : decode cX3_takeWorkload 31 = .ok (.iaload, 1) := by decide +kernel
theorem dX3_takeWorkload_32 : decode cX3_takeWorkload 32 = .ok (.iconst 1, 1) := by decide +kernel
theorem dX3_takeWorkload_33 : decode cX3_takeWorkload 33 = .ok (.aload_n 0, 1) := by decide +kernel
theorem dX3_takeWorkload_34 : decode cX3_takeWorkload 34 = .ok (.getfield 7, 3) := by decide +kernel
theorem dX3_takeWorkload_37 : decode cX3_takeWorkload 37 = .ok (.bipush 51, 2) := by decide +kernel
theorem dX3_takeWorkload_39 : decode cX3_takeWorkload 39 = .ok (.iaload, 1) := by decide +kernel
theorem dX3_takeWorkload_40 : decode cX3_takeWorkload 40 = .ok (.ishl, 1) := by decide +kernel
theorem dX3_takeWorkload_41 : decode cX3_takeWorkload 41 = .ok (.if_icmp .lt 5, 3) := by decide +kernel
theorem dX3_takeWorkload_44 : decode cX3_takeWorkload 44 = .ok (.iconst (-1), 1) := by decide +kernel
theorem dX3_takeWorkload_45 : decode cX3_takeWorkload 45 = .ok (.ireturn, 1) := by decide +kernel
theorem dX3_takeWorkload_46 : decode cX3_takeWorkload 46 = .ok (.iinc 2 1, 3) := by decide +kernel
theorem dX3_takeWorkload_49 : decode cX3_takeWorkload 49 = .ok (.goto (-31), 3) := by decide +kernel
theorem dX3_takeWorkload_52 : decode cX3_takeWorkload 52 = .ok (.aload_n 0, 1) := by decide +kernel
theorem dX3_takeWorkload_53 : decode cX3_takeWorkload 53 = .ok (.invokevirtual 77, 3) := by decide +kernel
theorem dX3_takeWorkload_56 : decode cX3_takeWorkload 56 = .ok (.iconst 0, 1) := by decide +kernel
theorem dX3_takeWorkload_57 : decode cX3_takeWorkload 57 = .ok (.istore_n 2, 1) := by decide +kernel
theorem dX3_takeWorkload_58 : decode cX3_takeWorkload 58 = .ok (.iload_n 2, 1) := by decide +kernel
theorem dX3_takeWorkload_59 : decode cX3_takeWorkload 59 = .ok (.aload_n 0, 1) := by decide +kernel
theorem dX3_takeWorkload_60 : decode cX3_takeWorkload 60 = .ok (.getfield 108, 3) := by decide +kernel
theorem dX3_takeWorkload_63 : decode cX3_takeWorkload 63 = .ok (.if_icmp .ge 24, 3) := by decide +kernel
theorem dX3_takeWorkload_66 : decode cX3_takeWorkload 66 = .ok (.aload_n 0, 1) := by decide +kernel
theorem dX3_takeWorkload_67 : decode cX3_takeWorkload 67 = .ok (.getfield 7, 3) := by decide +kernel
theorem dX3_takeWorkload_70 : decode cX3_takeWorkload 70 = .ok (.bipush 16, 2) := by decide +kernel
theorem dX3_takeWorkload_72 : decode cX3_takeWorkload 72 = .ok (.iload_n 2, 1) := by decide +kernel
theorem dX3_takeWorkload_73 : decode cX3_takeWorkload 73 = .ok (.iadd, 1) := by decide +kernel
theorem dX3_takeWorkload_74 : decode cX3_takeWorkload 74 = .ok (.aload_n 0, 1) := by decide +kernel
theorem dX3_takeWorkload_75 : decode cX3_takeWorkload 75 = .ok (.getfield 28, 3) := by decide +kernel
theorem dX3_takeWorkload_78 : decode cX3_takeWorkload 78 = .ok (.iload_n 2, 1) := by decide +kernel
theorem dX3_takeWorkload_79 : decode cX3_takeWorkload 79 = .ok (.iaload, 1) := by decide +kernel
theorem dX3_takeWorkload_80 : decode cX3_takeWorkload 80 = .ok (.iastore, 1) := by decide +kernel
theorem dX3_takeWorkload_81 : decode cX3_takeWorkload 81 = .ok (.iinc 2 1, 3) := by decide +kernel
theorem dX3_takeWorkload_84 : decode cX3_takeWorkload 84 = .ok (.goto (-26), 3) := by decide +kernel
theorem dX3_takeWorkload_87 : decode cX3_takeWorkload 87 = .ok (.aload_n 0, 1) := by decide +kernel
theorem dX3_takeWorkload_88 : decode cX3_takeWorkload 88 = .ok (.aload_n 0, 1) := by decide +kernel
theorem dX3_takeWorkload_89 : decode cX3_takeWorkload 89 = .ok (.getfield 108, 3) := by decide +kernel
theorem dX3_takeWorkload_92 : decode cX3_takeWorkload 92 = .ok (.invokevirtual 93, 3) := by decide +kernel
theorem dX3_takeWorkload_95 : decode cX3_takeWorkload 95 = .ok (.aload_n 0, 1) := by decide +kernel
theorem dX3_takeWorkload_96 : decode cX3_takeWorkload 96 = .ok (.aload_n 0, 1) := by decide +kernel
theorem dX3_takeWorkload_97 : decode cX3_takeWorkload 97 = .ok (.getfield 108, 3) := by decide +kernel
theorem dX3_takeWorkload_100 : decode cX3_takeWorkload 100 = .ok (.invokevirtual 80, 3) := by decide +kernel
theorem dX3_takeWorkload_103 : decode cX3_takeWorkload 103 = .ok (.ireturn, 1) := by decide +kernel
theorem dX3_isVoltage_0 : decode cX3_isVoltage 0 = .ok (.iload_n 0, 1) := by decide +kernel
theorem dX3_isVoltage_1 : decode cX3_isVoltage 1 = .ok (.i2l, 1) := by decide +kernel
theorem dX3_isVoltage_2 : decode cX3_isVoltage 2 = .ok (.ldc2_w 119, 3) := by decide +kernel
theorem dX3_isVoltage_5 : decode cX3_isVoltage 5 = .ok (.ldc2_w 121, 3) := by decide +kernel
theorem dX3_isVoltage_8 : decode cX3_isVoltage 8 = .ok (.invokestatic 39, 3) := by decide +kernel
theorem dX3_isVoltage_11 : decode cX3_isVoltage 11 = .ok (.ireturn, 1) := by decide +kernel
theorem dX3_setVoltage_0 : decode cX3_setVoltage 0 = .ok (.iload_n 1, 1) := by decide +kernel
theorem dX3_setVoltage_1 : decode cX3_setVoltage 1 = .ok (.invokestatic 123, 3) := by decide +kernel
theorem dX3_setVoltage_4 : decode cX3_setVoltage 4 = .ok (.ifCond .eq 13, 3) := by decide +kernel
theorem dX3_setVoltage_7 : decode cX3_setVoltage 7 = .ok (.aload_n 0, 1) := by decide +kernel
theorem dX3_setVoltage_8 : decode cX3_setVoltage 8 = .ok (.bipush 39, 2) := by decide +kernel
theorem dX3_setVoltage_10 : decode cX3_setVoltage 10 = .ok (.iload_n 1, 1) := by decide +kernel
theorem dX3_setVoltage_11 : decode cX3_setVoltage 11 = .ok (.invokevirtual 86, 3) := by decide +kernel
theorem dX3_setVoltage_14 : decode cX3_setVoltage 14 = .ok (.goto 5, 3) := by decide +kernel
theorem dX3_setVoltage_17 : decode cX3_setVoltage 17 = .ok (.bipush (-2), 2) := by decide +kernel
theorem dX3_setVoltage_19 : decode cX3_setVoltage 19 = .ok (.ireturn, 1) := by decide +kernel
theorem dX3_govern_0 : decode cX3_govern 0 = .ok (.iload_n 1, 1) := by decide +kernel
theorem dX3_govern_1 : decode cX3_govern 1 = .ok (.ifCond .eq 7, 3) := by decide +kernel
theorem dX3_govern_4 : decode cX3_govern 4 = .ok (.iconst 1, 1) := by decide +kernel
theorem dX3_govern_5 : decode cX3_govern 5 = .ok (.goto 4, 3) := by decide +kernel
theorem dX3_govern_8 : decode cX3_govern 8 = .ok (.iconst 0, 1) := by decide +kernel
theorem dX3_govern_9 : decode cX3_govern 9 = .ok (.istore_n 2, 1) := by decide +kernel
theorem dX3_govern_10 : decode cX3_govern 10 = .ok (.aload_n 0, 1) := by decide +kernel
theorem dX3_govern_11 : decode cX3_govern 11 = .ok (.getfield 7, 3) := by decide +kernel
theorem dX3_govern_14 : decode cX3_govern 14 = .ok (.bipush 41, 2) := by decide +kernel
theorem dX3_govern_16 : decode cX3_govern 16 = .ok (.iaload, 1) := by decide +kernel
theorem dX3_govern_17 : decode cX3_govern 17 = .ok (.iload_n 2, 1) := by decide +kernel
theorem dX3_govern_18 : decode cX3_govern 18 = .ok (.if_icmp .ne 6, 3) := by decide +kernel
theorem dX3_govern_21 : decode cX3_govern 21 = .ok (.bipush (-5), 2) := by decide +kernel
theorem dX3_govern_23 : decode cX3_govern 23 = .ok (.ireturn, 1) := by decide +kernel
theorem dX3_govern_24 : decode cX3_govern 24 = .ok (.aload_n 0, 1) := by decide +kernel
theorem dX3_govern_25 : decode cX3_govern 25 = .ok (.invokevirtual 77, 3) := by decide +kernel
theorem dX3_govern_28 : decode cX3_govern 28 = .ok (.aload_n 0, 1) := by decide +kernel
theorem dX3_govern_29 : decode cX3_govern 29 = .ok (.getfield 7, 3) := by decide +kernel
theorem dX3_govern_32 : decode cX3_govern 32 = .ok (.bipush 41, 2) := by decide +kernel
theorem dX3_govern_34 : decode cX3_govern 34 = .ok (.iload_n 2, 1) := by decide +kernel
theorem dX3_govern_35 : decode cX3_govern 35 = .ok (.iastore, 1) := by decide +kernel
theorem dX3_govern_36 : decode cX3_govern 36 = .ok (.aload_n 0, 1) := by decide +kernel
theorem dX3_govern_37 : decode cX3_govern 37 = .ok (.getfield 7, 3) := by decide +kernel
theorem dX3_govern_40 : decode cX3_govern 40 = .ok (.bipush 47, 2) := by decide +kernel
theorem dX3_govern_42 : decode cX3_govern 42 = .ok (.iconst 0, 1) := by decide +kernel
theorem dX3_govern_43 : decode cX3_govern 43 = .ok (.iastore, 1) := by decide +kernel
theorem dX3_govern_44 : decode cX3_govern 44 = .ok (.aload_n 0, 1) := by decide +kernel
theorem dX3_govern_45 : decode cX3_govern 45 = .ok (.getfield 7, 3) := by decide +kernel
theorem dX3_govern_48 : decode cX3_govern 48 = .ok (.bipush 48, 2) := by decide +kernel
theorem dX3_govern_50 : decode cX3_govern 50 = .ok (.iconst 0, 1) := by decide +kernel
theorem dX3_govern_51 : decode cX3_govern 51 = .ok (.iastore, 1) := by decide +kernel
theorem dX3_govern_52 : decode cX3_govern 52 = .ok (.aload_n 0, 1) := by decide +kernel
theorem dX3_govern_53 : decode cX3_govern 53 = .ok (.aload_n 0, 1) := by decide +kernel
theorem dX3_govern_54 : decode cX3_govern 54 = .ok (.getfield 7, 3) := by decide +kernel
theorem dX3_govern_57 : decode cX3_govern 57 = .ok (.bipush 39, 2) := by decide +kernel
theorem dX3_govern_59 : decode cX3_govern 59 = .ok (.iaload, 1) := by decide +kernel
theorem dX3_govern_60 : decode cX3_govern 60 = .ok (.invokevirtual 80, 3) := by decide +kernel
theorem dX3_govern_63 : decode cX3_govern 63 = .ok (.ireturn, 1) := by decide +kernel
theorem dX3_isSetting_0 : decode cX3_isSetting 0 = .ok (.iload_n 0, 1) := by decide +kernel
theorem dX3_isSetting_1 : decode cX3_isSetting 1 = .ok (.tableswitch 103 0 5 #[39, 51, 61, 71, 83, 93], 39) := by decide +kernel
theorem dX3_isSetting_40 : decode cX3_isSetting 40 = .ok (.iload_n 1, 1) := by decide +kernel
theorem dX3_isSetting_41 : decode cX3_isSetting 41 = .ok (.i2l, 1) := by decide +kernel
theorem dX3_isSetting_42 : decode cX3_isSetting 42 = .ok (.ldc2_w 126, 3) := by decide +kernel
theorem dX3_isSetting_45 : decode cX3_isSetting 45 = .ok (.ldc2_w 128, 3) := by decide +kernel
theorem dX3_isSetting_48 : decode cX3_isSetting 48 = .ok (.invokestatic 39, 3) := by decide +kernel
theorem dX3_isSetting_51 : decode cX3_isSetting 51 = .ok (.ireturn, 1) := by decide +kernel
theorem dX3_isSetting_52 : decode cX3_isSetting 52 = .ok (.iload_n 1, 1) := by decide +kernel
theorem dX3_isSetting_53 : decode cX3_isSetting 53 = .ok (.i2l, 1) := by decide +kernel
theorem dX3_isSetting_54 : decode cX3_isSetting 54 = .ok (.lconst 0, 1) := by decide +kernel
theorem dX3_isSetting_55 : decode cX3_isSetting 55 = .ok (.ldc2_w 130, 3) := by decide +kernel
theorem dX3_isSetting_58 : decode cX3_isSetting 58 = .ok (.invokestatic 39, 3) := by decide +kernel
theorem dX3_isSetting_61 : decode cX3_isSetting 61 = .ok (.ireturn, 1) := by decide +kernel
theorem dX3_isSetting_62 : decode cX3_isSetting 62 = .ok (.iload_n 1, 1) := by decide +kernel
theorem dX3_isSetting_63 : decode cX3_isSetting 63 = .ok (.i2l, 1) := by decide +kernel
theorem dX3_isSetting_64 : decode cX3_isSetting 64 = .ok (.lconst 1, 1) := by decide +kernel
theorem dX3_isSetting_65 : decode cX3_isSetting 65 = .ok (.ldc2_w 132, 3) := by decide +kernel
theorem dX3_isSetting_68 : decode cX3_isSetting 68 = .ok (.invokestatic 39, 3) := by decide +kernel
theorem dX3_isSetting_71 : decode cX3_isSetting 71 = .ok (.ireturn, 1) := by decide +kernel
theorem dX3_isSetting_72 : decode cX3_isSetting 72 = .ok (.iload_n 1, 1) := by decide +kernel
theorem dX3_isSetting_73 : decode cX3_isSetting 73 = .ok (.i2l, 1) := by decide +kernel
theorem dX3_isSetting_74 : decode cX3_isSetting 74 = .ok (.ldc2_w 69, 3) := by decide +kernel
theorem dX3_isSetting_77 : decode cX3_isSetting 77 = .ok (.ldc2_w 119, 3) := by decide +kernel
theorem dX3_isSetting_80 : decode cX3_isSetting 80 = .ok (.invokestatic 39, 3) := by decide +kernel
theorem dX3_isSetting_83 : decode cX3_isSetting 83 = .ok (.ireturn, 1) := by decide +kernel
theorem dX3_isSetting_84 : decode cX3_isSetting 84 = .ok (.iload_n 1, 1) := by decide +kernel
theorem dX3_isSetting_85 : decode cX3_isSetting 85 = .ok (.i2l, 1) := by decide +kernel
theorem dX3_isSetting_86 : decode cX3_isSetting 86 = .ok (.lconst 0, 1) := by decide +kernel
theorem dX3_isSetting_87 : decode cX3_isSetting 87 = .ok (.ldc2_w 134, 3) := by decide +kernel
theorem dX3_isSetting_90 : decode cX3_isSetting 90 = .ok (.invokestatic 39, 3) := by decide +kernel
theorem dX3_isSetting_93 : decode cX3_isSetting 93 = .ok (.ireturn, 1) := by decide +kernel
theorem dX3_isSetting_94 : decode cX3_isSetting 94 = .ok (.iload_n 1, 1) := by decide +kernel
theorem dX3_isSetting_95 : decode cX3_isSetting 95 = .ok (.i2l, 1) := by decide +kernel
theorem dX3_isSetting_96 : decode cX3_isSetting 96 = .ok (.lconst 1, 1) := by decide +kernel
theorem dX3_isSetting_97 : decode cX3_isSetting 97 = .ok (.ldc2_w 126, 3) := by decide +kernel
theorem dX3_isSetting_100 : decode cX3_isSetting 100 = .ok (.invokestatic 39, 3) := by decide +kernel
theorem dX3_isSetting_103 : decode cX3_isSetting 103 = .ok (.ireturn, 1) := by decide +kernel
theorem dX3_isSetting_104 : decode cX3_isSetting 104 = .ok (.iload_n 0, 1) := by decide +kernel
theorem dX3_isSetting_105 : decode cX3_isSetting 105 = .ok (.bipush 6, 2) := by decide +kernel
theorem dX3_isSetting_107 : decode cX3_isSetting 107 = .ok (.if_icmp .ne 19, 3) := by decide +kernel
theorem dX3_isSetting_110 : decode cX3_isSetting 110 = .ok (.iload_n 1, 1) := by decide +kernel
theorem dX3_isSetting_111 : decode cX3_isSetting 111 = .ok (.i2l, 1) := by decide +kernel
theorem dX3_isSetting_112 : decode cX3_isSetting 112 = .ok (.lconst 1, 1) := by decide +kernel
theorem dX3_isSetting_113 : decode cX3_isSetting 113 = .ok (.ldc2_w 69, 3) := by decide +kernel
theorem dX3_isSetting_116 : decode cX3_isSetting 116 = .ok (.invokestatic 39, 3) := by decide +kernel
theorem dX3_isSetting_119 : decode cX3_isSetting 119 = .ok (.ifCond .eq 7, 3) := by decide +kernel
theorem dX3_isSetting_122 : decode cX3_isSetting 122 = .ok (.iconst 1, 1) := by decide +kernel
theorem dX3_isSetting_123 : decode cX3_isSetting 123 = .ok (.goto 4, 3) := by decide +kernel
theorem dX3_isSetting_126 : decode cX3_isSetting 126 = .ok (.iconst 0, 1) := by decide +kernel
theorem dX3_isSetting_127 : decode cX3_isSetting 127 = .ok (.ireturn, 1) := by decide +kernel
theorem dX3_set_0 : decode cX3_set 0 = .ok (.iload_n 1, 1) := by decide +kernel
theorem dX3_set_1 : decode cX3_set 1 = .ok (.iload_n 2, 1) := by decide +kernel
theorem dX3_set_2 : decode cX3_set 2 = .ok (.invokestatic 136, 3) := by decide +kernel
theorem dX3_set_5 : decode cX3_set 5 = .ok (.ifCond .eq 15, 3) := by decide +kernel
theorem dX3_set_8 : decode cX3_set 8 = .ok (.aload_n 0, 1) := by decide +kernel
theorem dX3_set_9 : decode cX3_set 9 = .ok (.bipush 32, 2) := by decide +kernel
theorem dX3_set_11 : decode cX3_set 11 = .ok (.iload_n 1, 1) := by decide +kernel
theorem dX3_set_12 : decode cX3_set 12 = .ok (.iadd, 1) := by decide +kernel
theorem dX3_set_13 : decode cX3_set 13 = .ok (.iload_n 2, 1) := by decide +kernel
theorem dX3_set_14 : decode cX3_set 14 = .ok (.invokevirtual 86, 3) := by decide +kernel
theorem dX3_set_17 : decode cX3_set 17 = .ok (.goto 5, 3) := by decide +kernel
theorem dX3_set_20 : decode cX3_set 20 = .ok (.bipush (-2), 2) := by decide +kernel
theorem dX3_set_22 : decode cX3_set 22 = .ok (.ireturn, 1) := by decide +kernel
theorem dX3_run_0 : decode cX3_run 0 = .ok (.iload_n 1, 1) := by decide +kernel
theorem dX3_run_1 : decode cX3_run 1 = .ok (.i2l, 1) := by decide +kernel
theorem dX3_run_2 : decode cX3_run 2 = .ok (.lconst 1, 1) := by decide +kernel
theorem dX3_run_3 : decode cX3_run 3 = .ok (.ldc2_w 139, 3) := by decide +kernel
theorem dX3_run_6 : decode cX3_run 6 = .ok (.invokestatic 39, 3) := by decide +kernel
theorem dX3_run_9 : decode cX3_run 9 = .ok (.ifCond .ne 6, 3) := by decide +kernel
theorem dX3_run_12 : decode cX3_run 12 = .ok (.bipush (-2), 2) := by decide +kernel
theorem dX3_run_14 : decode cX3_run 14 = .ok (.ireturn, 1) := by decide +kernel
theorem dX3_run_15 : decode cX3_run 15 = .ok (.aload_n 0, 1) := by decide +kernel
theorem dX3_run_16 : decode cX3_run 16 = .ok (.invokevirtual 77, 3) := by decide +kernel
theorem dX3_run_19 : decode cX3_run 19 = .ok (.iconst 0, 1) := by decide +kernel
theorem dX3_run_20 : decode cX3_run 20 = .ok (.istore_n 2, 1) := by decide +kernel
theorem dX3_run_21 : decode cX3_run 21 = .ok (.iload_n 2, 1) := by decide +kernel
theorem dX3_run_22 : decode cX3_run 22 = .ok (.iload_n 1, 1) := by decide +kernel
theorem dX3_run_23 : decode cX3_run 23 = .ok (.if_icmp .ge 13, 3) := by decide +kernel
theorem dX3_run_26 : decode cX3_run 26 = .ok (.aload_n 0, 1) := by decide +kernel
theorem dX3_run_27 : decode cX3_run 27 = .ok (.invokevirtual 141, 3) := by decide +kernel
theorem dX3_run_30 : decode cX3_run 30 = .ok (.iinc 2 1, 3) := by decide +kernel
theorem dX3_run_33 : decode cX3_run 33 = .ok (.goto (-12), 3) := by decide +kernel
theorem dX3_run_36 : decode cX3_run 36 = .ok (.aload_n 0, 1) := by decide +kernel
theorem dX3_run_37 : decode cX3_run 37 = .ok (.aload_n 0, 1) := by decide +kernel
theorem dX3_run_38 : decode cX3_run 38 = .ok (.getfield 7, 3) := by decide +kernel
theorem dX3_run_41 : decode cX3_run 41 = .ok (.bipush 44, 2) := by decide +kernel
theorem dX3_run_43 : decode cX3_run 43 = .ok (.iaload, 1) := by decide +kernel
theorem dX3_run_44 : decode cX3_run 44 = .ok (.aload_n 0, 1) := by decide +kernel
theorem dX3_run_45 : decode cX3_run 45 = .ok (.getfield 13, 3) := by decide +kernel
theorem dX3_run_48 : decode cX3_run 48 = .ok (.bipush 44, 2) := by decide +kernel
theorem dX3_run_50 : decode cX3_run 50 = .ok (.iaload, 1) := by decide +kernel
theorem dX3_run_51 : decode cX3_run 51 = .ok (.isub, 1) := by decide +kernel
theorem dX3_run_52 : decode cX3_run 52 = .ok (.invokevirtual 80, 3) := by decide +kernel
theorem dX3_run_55 : decode cX3_run 55 = .ok (.ireturn, 1) := by decide +kernel
theorem dX3_undo_0 : decode cX3_undo 0 = .ok (.aload_n 0, 1) := by decide +kernel
theorem dX3_undo_1 : decode cX3_undo 1 = .ok (.getfield 35, 3) := by decide +kernel
theorem dX3_undo_4 : decode cX3_undo 4 = .ok (.ifCond .ne 6, 3) := by decide +kernel
theorem dX3_undo_7 : decode cX3_undo 7 = .ok (.bipush (-5), 2) := by decide +kernel
theorem dX3_undo_9 : decode cX3_undo 9 = .ok (.ireturn, 1) := by decide +kernel
theorem dX3_undo_10 : decode cX3_undo 10 = .ok (.aload_n 0, 1) := by decide +kernel
theorem dX3_undo_11 : decode cX3_undo 11 = .ok (.dup, 1) := by decide +kernel
theorem dX3_undo_12 : decode cX3_undo 12 = .ok (.getfield 35, 3) := by decide +kernel
theorem dX3_undo_15 : decode cX3_undo 15 = .ok (.iconst 1, 1) := by decide +kernel
theorem dX3_undo_16 : decode cX3_undo 16 = .ok (.isub, 1) := by decide +kernel
theorem dX3_undo_17 : decode cX3_undo 17 = .ok (.putfield 35, 3) := by decide +kernel
theorem dX3_undo_20 : decode cX3_undo 20 = .ok (.iconst 0, 1) := by decide +kernel
theorem dX3_undo_21 : decode cX3_undo 21 = .ok (.istore_n 1, 1) := by decide +kernel
theorem dX3_undo_22 : decode cX3_undo 22 = .ok (.iload_n 1, 1) := by decide +kernel
theorem dX3_undo_23 : decode cX3_undo 23 = .ok (.bipush 55, 2) := by decide +kernel
theorem dX3_undo_25 : decode cX3_undo 25 = .ok (.if_icmp .ge 29, 3) := by decide +kernel
theorem dX3_undo_28 : decode cX3_undo 28 = .ok (.aload_n 0, 1) := by decide +kernel
theorem dX3_undo_29 : decode cX3_undo 29 = .ok (.getfield 7, 3) := by decide +kernel
theorem dX3_undo_32 : decode cX3_undo 32 = .ok (.iload_n 1, 1) := by decide +kernel
theorem dX3_undo_33 : decode cX3_undo 33 = .ok (.aload_n 0, 1) := by decide +kernel
theorem dX3_undo_34 : decode cX3_undo 34 = .ok (.getfield 19, 3) := by decide +kernel
theorem dX3_undo_37 : decode cX3_undo 37 = .ok (.bipush 55, 2) := by decide +kernel
theorem dX3_undo_39 : decode cX3_undo 39 = .ok (.aload_n 0, 1) := by decide +kernel
theorem dX3_undo_40 : decode cX3_undo 40 = .ok (.getfield 35, 3) := by decide +kernel
theorem dX3_undo_43 : decode cX3_undo 43 = .ok (.imul, 1) := by decide +kernel
theorem dX3_undo_44 : decode cX3_undo 44 = .ok (.iload_n 1, 1) := by decide +kernel
theorem dX3_undo_45 : decode cX3_undo 45 = .ok (.iadd, 1) := by decide +kernel
theorem dX3_undo_46 : decode cX3_undo 46 = .ok (.iaload, 1) := by decide +kernel
theorem dX3_undo_47 : decode cX3_undo 47 = .ok (.iastore, 1) := by decide +kernel
theorem dX3_undo_48 : decode cX3_undo 48 = .ok (.iinc 1 1, 3) := by decide +kernel
theorem dX3_undo_51 : decode cX3_undo 51 = .ok (.goto (-29), 3) := by decide +kernel
theorem dX3_undo_54 : decode cX3_undo 54 = .ok (.aload_n 0, 1) := by decide +kernel
theorem dX3_undo_55 : decode cX3_undo 55 = .ok (.getfield 35, 3) := by decide +kernel
theorem dX3_undo_58 : decode cX3_undo 58 = .ok (.ireturn, 1) := by decide +kernel
theorem dX3_keep_0 : decode cX3_keep 0 = .ok (.aload_n 0, 1) := by decide +kernel
theorem dX3_keep_1 : decode cX3_keep 1 = .ok (.getfield 7, 3) := by decide +kernel
theorem dX3_keep_4 : decode cX3_keep 4 = .ok (.aload_n 0, 1) := by decide +kernel
theorem dX3_keep_5 : decode cX3_keep 5 = .ok (.getfield 22, 3) := by decide +kernel
theorem dX3_keep_8 : decode cX3_keep 8 = .ok (.invokestatic 31, 3) := by decide +kernel
theorem dX3_keep_11 : decode cX3_keep 11 = .ok (.aload_n 0, 1) := by decide +kernel
theorem dX3_keep_12 : decode cX3_keep 12 = .ok (.iconst 1, 1) := by decide +kernel
theorem dX3_keep_13 : decode cX3_keep 13 = .ok (.putfield 144, 3) := by decide +kernel
theorem dX3_keep_16 : decode cX3_keep 16 = .ok (.aload_n 0, 1) := by decide +kernel
theorem dX3_keep_17 : decode cX3_keep 17 = .ok (.getfield 7, 3) := by decide +kernel
