theorem dX9_init_0 : decode cX9_init 0 = .ok (.aload_n 0, 1) := by decide +kernel
theorem dX9_init_1 : decode cX9_init 1 = .ok (.invokespecial 1, 3) := by decide +kernel
theorem dX9_init_4 : decode cX9_init 4 = .ok (.aload_n 0, 1) := by decide +kernel
theorem dX9_init_5 : decode cX9_init 5 = .ok (.iconst 3, 1) := by decide +kernel
theorem dX9_init_6 : decode cX9_init 6 = .ok (.newarray .int, 2) := by decide +kernel
theorem dX9_init_8 : decode cX9_init 8 = .ok (.putfield 7, 3) := by decide +kernel
theorem dX9_init_11 : decode cX9_init 11 = .ok (.aload_n 0, 1) := by decide +kernel
theorem dX9_init_12 : decode cX9_init 12 = .ok (.iconst 3, 1) := by decide +kernel
theorem dX9_init_13 : decode cX9_init 13 = .ok (.anewarray 13, 3) := by decide +kernel
theorem dX9_init_16 : decode cX9_init 16 = .ok (.putfield 14, 3) := by decide +kernel
theorem dX9_init_19 : decode cX9_init 19 = .ok (.aload_n 0, 1) := by decide +kernel
theorem dX9_init_20 : decode cX9_init 20 = .ok (.bipush 10, 2) := by decide +kernel
theorem dX9_init_22 : decode cX9_init 22 = .ok (.anewarray 13, 3) := by decide +kernel
theorem dX9_init_25 : decode cX9_init 25 = .ok (.putfield 18, 3) := by decide +kernel
theorem dX9_init_28 : decode cX9_init 28 = .ok (.aload_n 0, 1) := by decide +kernel
theorem dX9_init_29 : decode cX9_init 29 = .ok (.bipush 60, 2) := by decide +kernel
theorem dX9_init_31 : decode cX9_init 31 = .ok (.anewarray 13, 3) := by decide +kernel
theorem dX9_init_34 : decode cX9_init 34 = .ok (.putfield 21, 3) := by decide +kernel
theorem dX9_init_37 : decode cX9_init 37 = .ok (.aload_n 0, 1) := by decide +kernel
theorem dX9_init_38 : decode cX9_init 38 = .ok (.sipush 2000, 3) := by decide +kernel
theorem dX9_init_41 : decode cX9_init 41 = .ok (.anewarray 13, 3) := by decide +kernel
theorem dX9_init_44 : decode cX9_init 44 = .ok (.putfield 24, 3) := by decide +kernel
theorem dX9_init_47 : decode cX9_init 47 = .ok (.iconst 0, 1) := by decide +kernel
theorem dX9_init_48 : decode cX9_init 48 = .ok (.istore_n 2, 1) := by decide +kernel
theorem dX9_init_49 : decode cX9_init 49 = .ok (.iload_n 2, 1) := by decide +kernel
theorem dX9_init_50 : decode cX9_init 50 = .ok (.iconst 3, 1) := by decide +kernel
theorem dX9_init_51 : decode cX9_init 51 = .ok (.if_icmp .ge 61, 3) := by decide +kernel
theorem dX9_init_54 : decode cX9_init 54 = .ok (.aload_n 0, 1) := by decide +kernel
theorem dX9_init_55 : decode cX9_init 55 = .ok (.getfield 7, 3) := by decide +kernel
theorem dX9_init_58 : decode cX9_init 58 = .ok (.iload_n 2, 1) := by decide +kernel
theorem dX9_init_59 : decode cX9_init 59 = .ok (.aload_n 1, 1) := by decide +kernel
theorem dX9_init_60 : decode cX9_init 60 = .ok (.iload_n 2, 1) := by decide +kernel
theorem dX9_init_61 : decode cX9_init 61 = .ok (.invokevirtual 27, 3) := by decide +kernel
theorem dX9_init_64 : decode cX9_init 64 = .ok (.iastore, 1) := by decide +kernel
theorem dX9_init_65 : decode cX9_init 65 = .ok (.aload_n 0, 1) := by decide +kernel
theorem dX9_init_66 : decode cX9_init 66 = .ok (.getfield 14, 3) := by decide +kernel
theorem dX9_init_69 : decode cX9_init 69 = .ok (.iload_n 2, 1) := by decide +kernel
theorem dX9_init_70 : decode cX9_init 70 = .ok (.iconst 5, 1) := by decide +kernel
theorem dX9_init_71 : decode cX9_init 71 = .ok (.newarray .int, 2) := by decide +kernel
theorem dX9_init_73 : decode cX9_init 73 = .ok (.dup, 1) := by decide +kernel
theorem dX9_init_74 : decode cX9_init 74 = .ok (.iconst 0, 1) := by decide +kernel
theorem dX9_init_75 : decode cX9_init 75 = .ok (.aload_n 1, 1) := by decide +kernel
theorem dX9_init_76 : decode cX9_init 76 = .ok (.iload_n 2, 1) := by decide +kernel
theorem dX9_init_77 : decode cX9_init 77 = .ok (.invokevirtual 33, 3) := by decide +kernel
theorem dX9_init_80 : decode cX9_init 80 = .ok (.iastore, 1) := by decide +kernel
theorem dX9_init_81 : decode cX9_init 81 = .ok (.dup, 1) := by decide +kernel
theorem dX9_init_82 : decode cX9_init 82 = .ok (.iconst 1, 1) := by decide +kernel
theorem dX9_init_83 : decode cX9_init 83 = .ok (.iconst 0, 1) := by decide +kernel
theorem dX9_init_84 : decode cX9_init 84 = .ok (.iastore, 1) := by decide +kernel
theorem dX9_init_85 : decode cX9_init 85 = .ok (.dup, 1) := by decide +kernel
theorem dX9_init_86 : decode cX9_init 86 = .ok (.iconst 2, 1) := by decide +kernel
theorem dX9_init_87 : decode cX9_init 87 = .ok (.aload_n 1, 1) := by decide +kernel
theorem dX9_init_88 : decode cX9_init 88 = .ok (.iload_n 2, 1) := by decide +kernel
theorem dX9_init_89 : decode cX9_init 89 = .ok (.invokevirtual 36, 3) := by decide +kernel
theorem dX9_init_92 : decode cX9_init 92 = .ok (.iastore, 1) := by decide +kernel
theorem dX9_init_93 : decode cX9_init 93 = .ok (.dup, 1) := by decide +kernel
theorem dX9_init_94 : decode cX9_init 94 = .ok (.iconst 3, 1) := by decide +kernel
theorem dX9_init_95 : decode cX9_init 95 = .ok (.aload_n 1, 1) := by decide +kernel
theorem dX9_init_96 : decode cX9_init 96 = .ok (.iload_n 2, 1) := by decide +kernel
theorem dX9_init_97 : decode cX9_init 97 = .ok (.invokevirtual 39, 3) := by decide +kernel
theorem dX9_init_100 : decode cX9_init 100 = .ok (.iastore, 1) := by decide +kernel
theorem dX9_init_101 : decode cX9_init 101 = .ok (.dup, 1) := by decide +kernel
theorem dX9_init_102 : decode cX9_init 102 = .ok (.iconst 4, 1) := by decide +kernel
theorem dX9_init_103 : decode cX9_init 103 = .ok (.iconst 0, 1) := by decide +kernel
theorem dX9_init_104 : decode cX9_init 104 = .ok (.iastore, 1) := by decide +kernel
theorem dX9_init_105 : decode cX9_init 105 = .ok (.aastore, 1) := by decide +kernel
theorem dX9_init_106 : decode cX9_init 106 = .ok (.iinc 2 1, 3) := by decide +kernel
theorem dX9_init_109 : decode cX9_init 109 = .ok (.goto (-60), 3) := by decide +kernel
theorem dX9_init_112 : decode cX9_init 112 = .ok (.aload_n 0, 1) := by decide +kernel
theorem dX9_init_113 : decode cX9_init 113 = .ok (.aload_n 1, 1) := by decide +kernel
theorem dX9_init_114 : decode cX9_init 114 = .ok (.invokevirtual 42, 3) := by decide +kernel
theorem dX9_init_117 : decode cX9_init 117 = .ok (.putfield 46, 3) := by decide +kernel
theorem dX9_init_120 : decode cX9_init 120 = .ok (.iconst 0, 1) := by decide +kernel
theorem dX9_init_121 : decode cX9_init 121 = .ok (.istore_n 2, 1) := by decide +kernel
theorem dX9_init_122 : decode cX9_init 122 = .ok (.iload_n 2, 1) := by decide +kernel
theorem dX9_init_123 : decode cX9_init 123 = .ok (.aload_n 0, 1) := by decide +kernel
theorem dX9_init_124 : decode cX9_init 124 = .ok (.getfield 46, 3) := by decide +kernel
theorem dX9_init_127 : decode cX9_init 127 = .ok (.if_icmp .ge 67, 3) := by decide +kernel
theorem dX9_init_130 : decode cX9_init 130 = .ok (.aload_n 0, 1) := by decide +kernel
theorem dX9_init_131 : decode cX9_init 131 = .ok (.getfield 18, 3) := by decide +kernel
theorem dX9_init_134 : decode cX9_init 134 = .ok (.iload_n 2, 1) := by decide +kernel
theorem dX9_init_135 : decode cX9_init 135 = .ok (.bipush 6, 2) := by decide +kernel
theorem dX9_init_137 : decode cX9_init 137 = .ok (.newarray .int, 2) := by decide +kernel
theorem dX9_init_139 : decode cX9_init 139 = .ok (.dup, 1) := by decide +kernel
theorem dX9_init_140 : decode cX9_init 140 = .ok (.iconst 0, 1) := by decide +kernel
theorem dX9_init_141 : decode cX9_init 141 = .ok (.aload_n 1, 1) := by decide +kernel
theorem dX9_init_142 : decode cX9_init 142 = .ok (.iload_n 2, 1) := by decide +kernel
theorem dX9_init_143 : decode cX9_init 143 = .ok (.invokevirtual 50, 3) := by decide +kernel
theorem dX9_init_146 : decode cX9_init 146 = .ok (.iastore, 1) := by decide +kernel
theorem dX9_init_147 : decode cX9_init 147 = .ok (.dup, 1) := by decide +kernel
theorem dX9_init_148 : decode cX9_init 148 = .ok (.iconst 1, 1) := by decide +kernel
theorem dX9_init_149 : decode cX9_init 149 = .ok (.aload_n 1, 1) := by decide +kernel
theorem dX9_init_150 : decode cX9_init 150 = .ok (.iload_n 2, 1) := by decide +kernel
theorem dX9_init_151 : decode cX9_init 151 = .ok (.invokevirtual 53, 3) := by decide +kernel
theorem dX9_init_154 : decode cX9_init 154 = .ok (.iastore, 1) := by decide +kernel
theorem dX9_init_155 : decode cX9_init 155 = .ok (.dup, 1) := by decide +kernel
theorem dX9_init_156 : decode cX9_init 156 = .ok (.iconst 2, 1) := by decide +kernel
theorem dX9_init_157 : decode cX9_init 157 = .ok (.aload_n 1, 1) := by decide +kernel
theorem dX9_init_158 : decode cX9_init 158 = .ok (.iload_n 2, 1) := by decide +kernel
theorem dX9_init_159 : decode cX9_init 159 = .ok (.invokevirtual 56, 3) := by decide +kernel
theorem dX9_init_162 : decode cX9_init 162 = .ok (.iastore, 1) := by decide +kernel
theorem dX9_init_163 : decode cX9_init 163 = .ok (.dup, 1) := by decide +kernel
theorem dX9_init_164 : decode cX9_init 164 = .ok (.iconst 3, 1) := by decide +kernel
theorem dX9_init_165 : decode cX9_init 165 = .ok (.aload_n 1, 1) := by decide +kernel
theorem dX9_init_166 : decode cX9_init 166 = .ok (.iload_n 2, 1) := by decide +kernel
theorem dX9_init_167 : decode cX9_init 167 = .ok (.invokevirtual 59, 3) := by decide +kernel
theorem dX9_init_170 : decode cX9_init 170 = .ok (.iastore, 1) := by decide +kernel
theorem dX9_init_171 : decode cX9_init 171 = .ok (.dup, 1) := by decide +kernel
theorem dX9_init_172 : decode cX9_init 172 = .ok (.iconst 4, 1) := by decide +kernel
theorem dX9_init_173 : decode cX9_init 173 = .ok (.aload_n 1, 1) := by decide +kernel
theorem dX9_init_174 : decode cX9_init 174 = .ok (.iload_n 2, 1) := by decide +kernel
theorem dX9_init_175 : decode cX9_init 175 = .ok (.invokevirtual 62, 3) := by decide +kernel
theorem dX9_init_178 : decode cX9_init 178 = .ok (.iastore, 1) := by decide +kernel
theorem dX9_init_179 : decode cX9_init 179 = .ok (.dup, 1) := by decide +kernel
theorem dX9_init_180 : decode cX9_init 180 = .ok (.iconst 5, 1) := by decide +kernel
theorem dX9_init_181 : decode cX9_init 181 = .ok (.aload_n 1, 1) := by decide +kernel
theorem dX9_init_182 : decode cX9_init 182 = .ok (.iload_n 2, 1) := by decide +kernel
theorem dX9_init_183 : decode cX9_init 183 = .ok (.invokevirtual 65, 3) := by decide +kernel
theorem dX9_init_186 : decode cX9_init 186 = .ok (.iastore, 1) := by decide +kernel
theorem dX9_init_187 : decode cX9_init 187 = .ok (.aastore, 1) := by decide +kernel
theorem dX9_init_188 : decode cX9_init 188 = .ok (.iinc 2 1, 3) := by decide +kernel
theorem dX9_init_191 : decode cX9_init 191 = .ok (.goto (-69), 3) := by decide +kernel
theorem dX9_init_194 : decode cX9_init 194 = .ok (.aload_n 0, 1) := by decide +kernel
theorem dX9_init_195 : decode cX9_init 195 = .ok (.aload_n 0, 1) := by decide +kernel
theorem dX9_init_196 : decode cX9_init 196 = .ok (.getfield 46, 3) := by decide +kernel
theorem dX9_init_199 : decode cX9_init 199 = .ok (.putfield 68, 3) := by decide +kernel
theorem dX9_init_202 : decode cX9_init 202 = .ok (.aload_n 0, 1) := by decide +kernel
theorem dX9_init_203 : decode cX9_init 203 = .ok (.aload_n 1, 1) := by decide +kernel
theorem dX9_init_204 : decode cX9_init 204 = .ok (.invokevirtual 71, 3) := by decide +kernel
theorem dX9_init_207 : decode cX9_init 207 = .ok (.putfield 74, 3) := by decide +kernel
theorem dX9_init_210 : decode cX9_init 210 = .ok (.aload_n 0, 1) := by decide +kernel
theorem dX9_init_211 : decode cX9_init 211 = .ok (.aload_n 1, 1) := by decide +kernel
theorem dX9_init_212 : decode cX9_init 212 = .ok (.invokevirtual 76, 3) := by decide +kernel
theorem dX9_init_215 : decode cX9_init 215 = .ok (.putfield 79, 3) := by decide +kernel
theorem dX9_init_218 : decode cX9_init 218 = .ok (.return_, 1) := by decide +kernel
theorem dX9_reserve_0 : decode cX9_reserve 0 = .ok (.aload_n 0, 1) := by decide +kernel
theorem dX9_reserve_1 : decode cX9_reserve 1 = .ok (.getfield 81, 3) := by decide +kernel
theorem dX9_reserve_4 : decode cX9_reserve 4 = .ok (.aload_n 1, 1) := by decide +kernel
theorem dX9_reserve_5 : decode cX9_reserve 5 = .ok (.iconst 2, 1) := by decide +kernel
theorem dX9_reserve_6 : decode cX9_reserve 6 = .ok (.iaload, 1) := by decide +kernel
theorem dX9_reserve_7 : decode cX9_reserve 7 = .ok (.isub, 1) := by decide +kernel
theorem dX9_reserve_8 : decode cX9_reserve 8 = .ok (.istore_n 2, 1) := by decide +kernel
theorem dX9_reserve_9 : decode cX9_reserve 9 = .ok (.aload_n 0, 1) := by decide +kernel
theorem dX9_reserve_10 : decode cX9_reserve 10 = .ok (.getfield 7, 3) := by decide +kernel
theorem dX9_reserve_13 : decode cX9_reserve 13 = .ok (.aload_n 1, 1) := by decide +kernel
theorem dX9_reserve_14 : decode cX9_reserve 14 = .ok (.iconst 0, 1) := by decide +kernel
theorem dX9_reserve_15 : decode cX9_reserve 15 = .ok (.iaload, 1) := by decide +kernel
theorem dX9_reserve_16 : decode cX9_reserve 16 = .ok (.iaload, 1) := by decide +kernel
theorem dX9_reserve_17 : decode cX9_reserve 17 = .ok (.istore_n 3, 1) := by decide +kernel
theorem dX9_reserve_18 : decode cX9_reserve 18 = .ok (.aload_n 1, 1) := by decide +kernel
theorem dX9_reserve_19 : decode cX9_reserve 19 = .ok (.iconst 0, 1) := by decide +kernel
theorem dX9_reserve_20 : decode cX9_reserve 20 = .ok (.iaload, 1) := by decide +kernel
theorem dX9_reserve_21 : decode cX9_reserve 21 = .ok (.ifCond .ne 26, 3) := by decide +kernel
theorem dX9_reserve_24 : decode cX9_reserve 24 = .ok (.iload_n 2, 1) := by decide +kernel
theorem dX9_reserve_25 : decode cX9_reserve 25 = .ok (.bipush 24, 2) := by decide +kernel
theorem dX9_reserve_27 : decode cX9_reserve 27 = .ok (.if_icmp .gt 7, 3) := by decide +kernel
theorem dX9_reserve_30 : decode cX9_reserve 30 = .ok (.iload_n 3, 1) := by decide +kernel
theorem dX9_reserve_31 : decode cX9_reserve 31 = .ok (.goto 15, 3) := by decide +kernel
theorem dX9_reserve_34 : decode cX9_reserve 34 = .ok (.iconst 0, 1) := by decide +kernel
theorem dX9_reserve_35 : decode cX9_reserve 35 = .ok (.iload_n 3, 1) := by decide +kernel
theorem dX9_reserve_36 : decode cX9_reserve 36 = .ok (.iconst 2, 1) := by decide +kernel
theorem dX9_reserve_37 : decode cX9_reserve 37 = .ok (.iload_n 2, 1) := by decide +kernel
theorem dX9_reserve_38 : decode cX9_reserve 38 = .ok (.bipush 24, 2) := by decide +kernel
theorem dX9_reserve_40 : decode cX9_reserve 40 = .ok (.isub, 1) := by decide +kernel
theorem dX9_reserve_41 : decode cX9_reserve 41 = .ok (.imul, 1) := by decide +kernel
theorem dX9_reserve_42 : decode cX9_reserve 42 = .ok (.isub, 1) := by decide +kernel
theorem dX9_reserve_43 : decode cX9_reserve 43 = .ok (.invokestatic 84, 3) := by decide +kernel
theorem dX9_reserve_46 : decode cX9_reserve 46 = .ok (.ireturn, 1) := by decide +kernel
theorem dX9_reserve_47 : decode cX9_reserve 47 = .ok (.aload_n 1, 1) := by decide +kernel
theorem dX9_reserve_48 : decode cX9_reserve 48 = .ok (.iconst 0, 1) := by decide +kernel
theorem dX9_reserve_49 : decode cX9_reserve 49 = .ok (.iaload, 1) := by decide +kernel
theorem dX9_reserve_50 : decode cX9_reserve 50 = .ok (.iconst 1, 1) := by decide +kernel
theorem dX9_reserve_51 : decode cX9_reserve 51 = .ok (.if_icmp .ne 16, 3) := by decide +kernel
theorem dX9_reserve_54 : decode cX9_reserve 54 = .ok (.iconst 0, 1) := by decide +kernel
theorem dX9_reserve_55 : decode cX9_reserve 55 = .ok (.iload_n 3, 1) := by decide +kernel
theorem dX9_reserve_56 : decode cX9_reserve 56 = .ok (.iload_n 3, 1) := by decide +kernel
theorem dX9_reserve_57 : decode cX9_reserve 57 = .ok (.iload_n 2, 1) := by decide +kernel
theorem dX9_reserve_58 : decode cX9_reserve 58 = .ok (.imul, 1) := by decide +kernel
theorem dX9_reserve_59 : decode cX9_reserve 59 = .ok (.bipush 20, 2) := by decide +kernel
theorem dX9_reserve_61 : decode cX9_reserve 61 = .ok (.idiv, 1) := by decide +kernel
theorem dX9_reserve_62 : decode cX9_reserve 62 = .ok (.isub, 1) := by decide +kernel
theorem dX9_reserve_63 : decode cX9_reserve 63 = .ok (.invokestatic 84, 3) := by decide +kernel
theorem dX9_reserve_66 : decode cX9_reserve 66 = .ok (.ireturn, 1) := by decide +kernel
theorem dX9_reserve_67 : decode cX9_reserve 67 = .ok (.iconst 4, 1) := by decide +kernel
theorem dX9_reserve_68 : decode cX9_reserve 68 = .ok (.istore 4, 2) := by decide +kernel
theorem dX9_reserve_70 : decode cX9_reserve 70 = .ok (.iload 4, 2) := by decide +kernel
theorem dX9_reserve_72 : decode cX9_reserve 72 = .ok (.iload_n 2, 1) := by decide +kernel
theorem dX9_reserve_73 : decode cX9_reserve 73 = .ok (.if_icmp .gt 13, 3) := by decide +kernel
theorem dX9_reserve_76 : decode cX9_reserve 76 = .ok (.iload_n 3, 1) := by decide +kernel
theorem dX9_reserve_77 : decode cX9_reserve 77 = .ok (.iconst 2, 1) := by decide +kernel
theorem dX9_reserve_78 : decode cX9_reserve 78 = .ok (.idiv, 1) := by decide +kernel
theorem dX9_reserve_79 : decode cX9_reserve 79 = .ok (.istore_n 3, 1) := by decide +kernel
theorem dX9_reserve_80 : decode cX9_reserve 80 = .ok (.iinc 4 4, 3) := by decide +kernel
theorem dX9_reserve_83 : decode cX9_reserve 83 = .ok (.goto (-13), 3) := by decide +kernel
theorem dX9_reserve_86 : decode cX9_reserve 86 = .ok (.iload_n 3, 1) := by decide +kernel
theorem dX9_reserve_87 : decode cX9_reserve 87 = .ok (.ireturn, 1) := by decide +kernel
theorem dX9_tells_0 : decode cX9_tells 0 = .ok (.aload_n 0, 1) := by decide +kernel
theorem dX9_tells_1 : decode cX9_tells 1 = .ok (.getfield 24, 3) := by decide +kernel
theorem dX9_tells_4 : decode cX9_tells 4 = .ok (.aload_n 0, 1) := by decide +kernel
theorem dX9_tells_5 : decode cX9_tells 5 = .ok (.getfield 90, 3) := by decide +kernel
theorem dX9_tells_8 : decode cX9_tells 8 = .ok (.iconst 3, 1) := by decide +kernel
theorem dX9_tells_9 : decode cX9_tells 9 = .ok (.newarray .int, 2) := by decide +kernel
theorem dX9_tells_11 : decode cX9_tells 11 = .ok (.dup, 1) := by decide +kernel
theorem dX9_tells_12 : decode cX9_tells 12 = .ok (.iconst 0, 1) := by decide +kernel
theorem dX9_tells_13 : decode cX9_tells 13 = .ok (.iload_n 1, 1) := by decide +kernel
theorem dX9_tells_14 : decode cX9_tells 14 = .ok (.iastore, 1) := by decide +kernel
theorem dX9_tells_15 : decode cX9_tells 15 = .ok (.dup, 1) := by decide +kernel
theorem dX9_tells_16 : decode cX9_tells 16 = .ok (.iconst 1, 1) := by decide +kernel
theorem dX9_tells_17 : decode cX9_tells 17 = .ok (.iload_n 2, 1) := by decide +kernel
theorem dX9_tells_18 : decode cX9_tells 18 = .ok (.iastore, 1) := by decide +kernel
theorem dX9_tells_19 : decode cX9_tells 19 = .ok (.dup, 1) := by decide +kernel
theorem dX9_tells_20 : decode cX9_tells 20 = .ok (.iconst 2, 1) := by decide +kernel
theorem dX9_tells_21 : decode cX9_tells 21 = .ok (.iload_n 3, 1) := by decide +kernel
theorem dX9_tells_22 : decode cX9_tells 22 = .ok (.iastore, 1) := by decide +kernel
theorem dX9_tells_23 : decode cX9_tells 23 = .ok (.aastore, 1) := by decide +kernel
theorem dX9_tells_24 : decode cX9_tells 24 = .ok (.aload_n 0, 1) := by decide +kernel
theorem dX9_tells_25 : decode cX9_tells 25 = .ok (.dup, 1) := by decide +kernel
theorem dX9_tells_26 : decode cX9_tells 26 = .ok (.getfield 90, 3) := by decide +kernel
theorem dX9_tells_29 : decode cX9_tells 29 = .ok (.iconst 1, 1) := by decide +kernel
theorem dX9_tells_30 : decode cX9_tells 30 = .ok (.iadd, 1) := by decide +kernel
theorem dX9_tells_31 : decode cX9_tells 31 = .ok (.putfield 90, 3) := by decide +kernel
theorem dX9_tells_34 : decode cX9_tells 34 = .ok (.return_, 1) := by decide +kernel
theorem dX9_dropLoaf_0 : decode cX9_dropLoaf 0 = .ok (.aload_n 0, 1) := by decide +kernel
theorem dX9_dropLoaf_1 : decode cX9_dropLoaf 1 = .ok (.dup, 1) := by decide +kernel
theorem dX9_dropLoaf_2 : decode cX9_dropLoaf 2 = .ok (.getfield 93, 3) := by decide +kernel
theorem dX9_dropLoaf_5 : decode cX9_dropLoaf 5 = .ok (.iconst 1, 1) := by decide +kernel
theorem dX9_dropLoaf_6 : decode cX9_dropLoaf 6 = .ok (.isub, 1) := by decide +kernel
theorem dX9_dropLoaf_7 : decode cX9_dropLoaf 7 = .ok (.putfield 93, 3) := by decide +kernel
theorem dX9_dropLoaf_10 : decode cX9_dropLoaf 10 = .ok (.iload_n 1, 1) := by decide +kernel
theorem dX9_dropLoaf_11 : decode cX9_dropLoaf 11 = .ok (.istore_n 2, 1) := by decide +kernel
theorem dX9_dropLoaf_12 : decode cX9_dropLoaf 12 = .ok (.iload_n 2, 1) := by decide +kernel
theorem dX9_dropLoaf_13 : decode cX9_dropLoaf 13 = .ok (.aload_n 0, 1) := by decide +kernel
theorem dX9_dropLoaf_14 : decode cX9_dropLoaf 14 = .ok (.getfield 93, 3) := by decide +kernel
theorem dX9_dropLoaf_17 : decode cX9_dropLoaf 17 = .ok (.if_icmp .ge 23, 3) := by decide +kernel
theorem dX9_dropLoaf_20 : decode cX9_dropLoaf 20 = .ok (.aload_n 0, 1) := by decide +kernel
theorem dX9_dropLoaf_21 : decode cX9_dropLoaf 21 = .ok (.getfield 21, 3) := by decide +kernel
theorem dX9_dropLoaf_24 : decode cX9_dropLoaf 24 = .ok (.iload_n 2, 1) := by decide +kernel
theorem dX9_dropLoaf_25 : decode cX9_dropLoaf 25 = .ok (.aload_n 0, 1) := by decide +kernel
theorem dX9_dropLoaf_26 : decode cX9_dropLoaf 26 = .ok (.getfield 21, 3) := by decide +kernel
theorem dX9_dropLoaf_29 : decode cX9_dropLoaf 29 = .ok (.iload_n 2, 1) := by decide +kernel
theorem dX9_dropLoaf_30 : decode cX9_dropLoaf 30 = .ok (.iconst 1, 1) := by decide +kernel
theorem dX9_dropLoaf_31 : decode cX9_dropLoaf 31 = .ok (.iadd, 1) := by decide +kernel
theorem dX9_dropLoaf_32 : decode cX9_dropLoaf 32 = .ok (.aaload, 1) := by decide +kernel
theorem dX9_dropLoaf_33 : decode cX9_dropLoaf 33 = .ok (.aastore, 1) := by decide +kernel
theorem dX9_dropLoaf_34 : decode cX9_dropLoaf 34 = .ok (.iinc 2 1, 3) := by decide +kernel
theorem dX9_dropLoaf_37 : decode cX9_dropLoaf 37 = .ok (.goto (-25), 3) := by decide +kernel
theorem dX9_dropLoaf_40 : decode cX9_dropLoaf 40 = .ok (.return_, 1) := by decide +kernel
theorem dX9_leaves_0 : decode cX9_leaves 0 = .ok (.aload_n 0, 1) := by decide +kernel
theorem dX9_leaves_1 : decode cX9_leaves 1 = .ok (.iconst 3, 1) := by decide +kernel
theorem dX9_leaves_2 : decode cX9_leaves 2 = .ok (.aload_n 0, 1) := by decide +kernel
theorem dX9_leaves_3 : decode cX9_leaves 3 = .ok (.getfield 18, 3) := by decide +kernel
theorem dX9_leaves_6 : decode cX9_leaves 6 = .ok (.iload_n 1, 1) := by decide +kernel
theorem dX9_leaves_7 : decode cX9_leaves 7 = .ok (.aaload, 1) := by decide +kernel
theorem dX9_leaves_8 : decode cX9_leaves 8 = .ok (.iconst 0, 1) := by decide +kernel
theorem dX9_leaves_9 : decode cX9_leaves 9 = .ok (.iaload, 1) := by decide +kernel
theorem dX9_leaves_10 : decode cX9_leaves 10 = .ok (.iload_n 2, 1) := by decide +kernel
theorem dX9_leaves_11 : decode cX9_leaves 11 = .ok (.invokevirtual 96, 3) := by decide +kernel
theorem dX9_leaves_14 : decode cX9_leaves 14 = .ok (.aload_n 0, 1) := by decide +kernel
theorem dX9_leaves_15 : decode cX9_leaves 15 = .ok (.dup, 1) := by decide +kernel
theorem dX9_leaves_16 : decode cX9_leaves 16 = .ok (.getfield 46, 3) := by decide +kernel
theorem dX9_leaves_19 : decode cX9_leaves 19 = .ok (.iconst 1, 1) := by decide +kernel
theorem dX9_leaves_20 : decode cX9_leaves 20 = .ok (.isub, 1) := by decide +kernel
theorem dX9_leaves_21 : decode cX9_leaves 21 = .ok (.putfield 46, 3) := by decide +kernel
theorem dX9_leaves_24 : decode cX9_leaves 24 = .ok (.iload_n 1, 1) := by decide +kernel
theorem dX9_leaves_25 : decode cX9_leaves 25 = .ok (.istore_n 3, 1) := by decide +kernel
theorem dX9_leaves_26 : decode cX9_leaves 26 = .ok (.iload_n 3, 1) := by decide +kernel
theorem dX9_leaves_27 : decode cX9_leaves 27 = .ok (.aload_n 0, 1) := by decide +kernel
theorem dX9_leaves_28 : decode cX9_leaves 28 = .ok (.getfield 46, 3) := by decide +kernel
theorem dX9_leaves_31 : decode cX9_leaves 31 = .ok (.if_icmp .ge 23, 3) := by decide +kernel
theorem dX9_leaves_34 : decode cX9_leaves 34 = .ok (.aload_n 0, 1) := by decide +kernel
theorem dX9_leaves_35 : decode cX9_leaves 35 = .ok (.getfield 18, 3) := by decide +kernel
theorem dX9_leaves_38 : decode cX9_leaves 38 = .ok (.iload_n 3, 1) := by decide +kernel
theorem dX9_leaves_39 : decode cX9_leaves 39 = .ok (.aload_n 0, 1) := by decide +kernel
theorem dX9_leaves_40 : decode cX9_leaves 40 = .ok (.getfield 18, 3) := by decide +kernel
theorem dX9_leaves_43 : decode cX9_leaves 43 = .ok (.iload_n 3, 1) := by decide +kernel
theorem dX9_leaves_44 : decode cX9_leaves 44 = .ok (.iconst 1, 1) := by decide +kernel
theorem dX9_leaves_45 : decode cX9_leaves 45 = .ok (.iadd, 1) := by decide +kernel
theorem dX9_leaves_46 : decode cX9_leaves 46 = .ok (.aaload, 1) := by decide +kernel
theorem dX9_leaves_47 : decode cX9_leaves 47 = .ok (.aastore, 1) := by decide +kernel
theorem dX9_leaves_48 : decode cX9_leaves 48 = .ok (.iinc 3 1, 3) := by decide +kernel
theorem dX9_leaves_51 : decode cX9_leaves 51 = .ok (.goto (-25), 3) := by decide +kernel
theorem dX9_leaves_54 : decode cX9_leaves 54 = .ok (.return_, 1) := by decide +kernel
theorem dX9_inOvens_0 : decode cX9_inOvens 0 = .ok (.iconst 0, 1) := by decide +kernel
theorem dX9_inOvens_1 : decode cX9_inOvens 1 = .ok (.istore_n 1, 1) := by decide +kernel
theorem dX9_inOvens_2 : decode cX9_inOvens 2 = .ok (.iconst 0, 1) := by decide +kernel
theorem dX9_inOvens_3 : decode cX9_inOvens 3 = .ok (.istore_n 2, 1) := by decide +kernel
theorem dX9_inOvens_4 : decode cX9_inOvens 4 = .ok (.iload_n 2, 1) := by decide +kernel
theorem dX9_inOvens_5 : decode cX9_inOvens 5 = .ok (.iconst 3, 1) := by decide +kernel
theorem dX9_inOvens_6 : decode cX9_inOvens 6 = .ok (.if_icmp .ge 31, 3) := by decide +kernel
theorem dX9_inOvens_9 : decode cX9_inOvens 9 = .ok (.aload_n 0, 1) := by decide +kernel
theorem dX9_inOvens_10 : decode cX9_inOvens 10 = .ok (.getfield 14, 3) := by decide +kernel
theorem dX9_inOvens_13 : decode cX9_inOvens 13 = .ok (.iload_n 2, 1) := by decide +kernel
theorem dX9_inOvens_14 : decode cX9_inOvens 14 = .ok (.aaload, 1) := by decide +kernel
theorem dX9_inOvens_15 : decode cX9_inOvens 15 = .ok (.iconst 3, 1) := by decide +kernel
theorem dX9_inOvens_16 : decode cX9_inOvens 16 = .ok (.iaload, 1) := by decide +kernel
theorem dX9_inOvens_17 : decode cX9_inOvens 17 = .ok (.ifCond .le 14, 3) := by decide +kernel
theorem dX9_inOvens_20 : decode cX9_inOvens 20 = .ok (.iload_n 1, 1) := by decide +kernel
theorem dX9_inOvens_21 : decode cX9_inOvens 21 = .ok (.aload_n 0, 1) := by decide +kernel
theorem dX9_inOvens_22 : decode cX9_inOvens 22 = .ok (.getfield 14, 3) := by decide +kernel
theorem dX9_inOvens_25 : decode cX9_inOvens 25 = .ok (.iload_n 2, 1) := by decide +kernel
theorem dX9_inOvens_26 : decode cX9_inOvens 26 = .ok (.aaload, 1) := by decide +kernel
theorem dX9_inOvens_27 : decode cX9_inOvens 27 = .ok (.iconst 0, 1) := by decide +kernel
theorem dX9_inOvens_28 : decode cX9_inOvens 28 = .ok (.iaload, 1) := by decide +kernel
theorem dX9_inOvens_29 : decode cX9_inOvens 29 = .ok (.iadd, 1) := by decide +kernel
theorem dX9_inOvens_30 : decode cX9_inOvens 30 = .ok (.istore_n 1, 1) := by decide +kernel
theorem dX9_inOvens_31 : decode cX9_inOvens 31 = .ok (.iinc 2 1, 3) := by decide +kernel
theorem dX9_inOvens_34 : decode cX9_inOvens 34 = .ok (.goto (-30), 3) := by decide +kernel
theorem dX9_inOvens_37 : decode cX9_inOvens 37 = .ok (.iload_n 1, 1) := by decide +kernel
theorem dX9_inOvens_38 : decode cX9_inOvens 38 = .ok (.ireturn, 1) := by decide +kernel
theorem dX9_passes_0 : decode cX9_passes 0 = .ok (.iconst 0, 1) := by decide +kernel
theorem dX9_passes_1 : decode cX9_passes 1 = .ok (.istore_n 1, 1) := by decide +kernel
theorem dX9_passes_2 : decode cX9_passes 2 = .ok (.aload_n 0, 1) := by decide +kernel
theorem dX9_passes_3 : decode cX9_passes 3 = .ok (.dup, 1) := by decide +kernel
theorem dX9_passes_4 : decode cX9_passes 4 = .ok (.getfield 81, 3) := by decide +kernel
theorem dX9_passes_7 : decode cX9_passes 7 = .ok (.iconst 1, 1) := by decide +kernel
theorem dX9_passes_8 : decode cX9_passes 8 = .ok (.iadd, 1) := by decide +kernel
theorem dX9_passes_9 : decode cX9_passes 9 = .ok (.putfield 81, 3) := by decide +kernel
theorem dX9_passes_12 : decode cX9_passes 12 = .ok (.iconst 0, 1) := by decide +kernel
theorem dX9_passes_13 : decode cX9_passes 13 = .ok (.istore_n 2, 1) := by decide +kernel
theorem dX9_passes_14 : decode cX9_passes 14 = .ok (.iload_n 2, 1) := by decide +kernel
theorem dX9_passes_15 : decode cX9_passes 15 = .ok (.iconst 3, 1) := by decide +kernel
theorem dX9_passes_16 : decode cX9_passes 16 = .ok (.if_icmp .ge 127, 3) := by decide +kernel
theorem dX9_passes_19 : decode cX9_passes 19 = .ok (.aload_n 0, 1) := by decide +kernel
theorem dX9_passes_20 : decode cX9_passes 20 = .ok (.getfield 14, 3) := by decide +kernel
theorem dX9_passes_23 : decode cX9_passes 23 = .ok (.iload_n 2, 1) := by decide +kernel
theorem dX9_passes_24 : decode cX9_passes 24 = .ok (.aaload, 1) := by decide +kernel
theorem dX9_passes_25 : decode cX9_passes 25 = .ok (.iconst 3, 1) := by decide +kernel
theorem dX9_passes_26 : decode cX9_passes 26 = .ok (.iaload, 1) := by decide +kernel
theorem dX9_passes_27 : decode cX9_passes 27 = .ok (.ifCond .ne 6, 3) := by decide +kernel
theorem dX9_passes_30 : decode cX9_passes 30 = .ok (.goto 107, 3) := by decide +kernel
theorem dX9_passes_33 : decode cX9_passes 33 = .ok (.aload_n 0, 1) := by decide +kernel
theorem dX9_passes_34 : decode cX9_passes 34 = .ok (.getfield 14, 3) := by decide +kernel
theorem dX9_passes_37 : decode cX9_passes 37 = .ok (.iload_n 2, 1) := by decide +kernel
theorem dX9_passes_38 : decode cX9_passes 38 = .ok (.aaload, 1) := by decide +kernel
theorem dX9_passes_39 : decode cX9_passes 39 = .ok (.iconst 3, 1) := by decide +kernel
theorem dX9_passes_40 : decode cX9_passes 40 = .ok (.dup2, 1) := by decide +kernel
theorem dX9_passes_41 : decode cX9_passes 41 = .ok (.iaload, 1) := by decide +kernel
theorem dX9_passes_42 : decode cX9_passes 42 = .ok (.iconst 1, 1) := by decide +kernel
theorem dX9_passes_43 : decode cX9_passes 43 = .ok (.isub, 1) := by decide +kernel
theorem dX9_passes_44 : decode cX9_passes 44 = .ok (.iastore, 1) := by decide +kernel
theorem dX9_passes_45 : decode cX9_passes 45 = .ok (.aload_n 0, 1) := by decide +kernel
theorem dX9_passes_46 : decode cX9_passes 46 = .ok (.getfield 14, 3) := by decide +kernel
theorem dX9_passes_49 : decode cX9_passes 49 = .ok (.iload_n 2, 1) := by decide +kernel
theorem dX9_passes_50 : decode cX9_passes 50 = .ok (.aaload, 1) := by decide +kernel
theorem dX9_passes_51 : decode cX9_passes 51 = .ok (.iconst 3, 1) := by decide +kernel
theorem dX9_passes_52 : decode cX9_passes 52 = .ok (.iaload, 1) := by decide +kernel
theorem dX9_passes_53 : decode cX9_passes 53 = .ok (.ifCond .le 6, 3) := by decide +kernel
theorem dX9_passes_56 : decode cX9_passes 56 = .ok (.goto 81, 3) := by decide +kernel
theorem dX9_passes_59 : decode cX9_passes 59 = .ok (.iconst 0, 1) := by decide +kernel
theorem dX9_passes_60 : decode cX9_passes 60 = .ok (.istore_n 3, 1) := by decide +kernel
theorem dX9_passes_61 : decode cX9_passes 61 = .ok (.iload_n 3, 1) := by decide +kernel
theorem dX9_passes_62 : decode cX9_passes 62 = .ok (.aload_n 0, 1) := by decide +kernel
theorem dX9_passes_63 : decode cX9_passes 63 = .ok (.getfield 14, 3) := by decide +kernel
theorem dX9_passes_66 : decode cX9_passes 66 = .ok (.iload_n 2, 1) := by decide +kernel
theorem dX9_passes_67 : decode cX9_passes 67 = .ok (.aaload, 1) := by decide +kernel
theorem dX9_passes_68 : decode cX9_passes 68 = .ok (.iconst 0, 1) := by decide +kernel
theorem dX9_passes_69 : decode cX9_passes 69 = .ok (.iaload, 1) := by decide +kernel
theorem dX9_passes_70 : decode cX9_passes 70 = .ok (.if_icmp .ge 53, 3) := by decide +kernel
theorem dX9_passes_73 : decode cX9_passes 73 = .ok (.aload_n 0, 1) := by decide +kernel
theorem dX9_passes_74 : decode cX9_passes 74 = .ok (.getfield 21, 3) := by decide +kernel
theorem dX9_passes_77 : decode cX9_passes 77 = .ok (.aload_n 0, 1) := by decide +kernel
theorem dX9_passes_78 : decode cX9_passes 78 = .ok (.getfield 93, 3) := by decide +kernel
theorem dX9_passes_81 : decode cX9_passes 81 = .ok (.iconst 3, 1) := by decide +kernel
theorem dX9_passes_82 : decode cX9_passes 82 = .ok (.newarray .int, 2) := by decide +kernel
theorem dX9_passes_84 : decode cX9_passes 84 = .ok (.dup, 1) := by decide +kernel
theorem dX9_passes_85 : decode cX9_passes 85 = .ok (.iconst 0, 1) := by decide +kernel
theorem dX9_passes_86 : decode cX9_passes 86 = .ok (.aload_n 0, 1) := by decide +kernel
theorem dX9_passes_87 : decode cX9_passes 87 = .ok (.getfield 14, 3) := by decide +kernel
theorem dX9_passes_90 : decode cX9_passes 90 = .ok (.iload_n 2, 1) := by decide +kernel
theorem dX9_passes_91 : decode cX9_passes 91 = .ok (.aaload, 1) := by decide +kernel
theorem dX9_passes_92 : decode cX9_passes 92 = .ok (.iconst 2, 1) := by decide +kernel
theorem dX9_passes_93 : decode cX9_passes 93 = .ok (.iaload, 1) := by decide +kernel
theorem dX9_passes_94 : decode cX9_passes 94 = .ok (.iastore, 1) := by decide +kernel
theorem dX9_passes_95 : decode cX9_passes 95 = .ok (.dup, 1) := by decide +kernel
theorem dX9_passes_96 : decode cX9_passes 96 = .ok (.iconst 1, 1) := by decide +kernel
theorem dX9_passes_97 : decode cX9_passes 97 = .ok (.iload_n 2, 1) := by decide +kernel
theorem dX9_passes_98 : decode cX9_passes 98 = .ok (.iastore, 1) := by decide +kernel
theorem dX9_passes_99 : decode cX9_passes 99 = .ok (.dup, 1) := by decide +kernel
theorem dX9_passes_100 : decode cX9_passes 100 = .ok (.iconst 2, 1) := by decide +kernel
theorem dX9_passes_101 : decode cX9_passes 101 = .ok (.aload_n 0, 1) := by decide +kernel
theorem dX9_passes_102 : decode cX9_passes 102 = .ok (.getfield 81, 3) := by decide +kernel
theorem dX9_passes_105 : decode cX9_passes 105 = .ok (.iastore, 1) := by decide +kernel
theorem dX9_passes_106 : decode cX9_passes 106 = .ok (.aastore, 1) := by decide +kernel
theorem dX9_passes_107 : decode cX9_passes 107 = .ok (.aload_n 0, 1) := by decide +kernel
theorem dX9_passes_108 : decode cX9_passes 108 = .ok (.dup, 1) := by decide +kernel
theorem dX9_passes_109 : decode cX9_passes 109 = .ok (.getfield 93, 3) := by decide +kernel
theorem dX9_passes_112 : decode cX9_passes 112 = .ok (.iconst 1, 1) := by decide +kernel
theorem dX9_passes_113 : decode cX9_passes 113 = .ok (.iadd, 1) := by decide +kernel
theorem dX9_passes_114 : decode cX9_passes 114 = .ok (.putfield 93, 3) := by decide +kernel
theorem dX9_passes_117 : decode cX9_passes 117 = .ok (.iinc 3 1, 3) := by decide +kernel
theorem dX9_passes_120 : decode cX9_passes 120 = .ok (.goto (-59), 3) := by decide +kernel
theorem dX9_passes_123 : decode cX9_passes 123 = .ok (.aload_n 0, 1) := by decide +kernel
theorem dX9_passes_124 : decode cX9_passes 124 = .ok (.iconst 0, 1) := by decide +kernel
theorem dX9_passes_125 : decode cX9_passes 125 = .ok (.iload_n 2, 1) := by decide +kernel
theorem dX9_passes_126 : decode cX9_passes 126 = .ok (.aload_n 0, 1) := by decide +kernel
theorem dX9_passes_127 : decode cX9_passes 127 = .ok (.getfield 14, 3) := by decide +kernel
theorem dX9_passes_130 : decode cX9_passes 130 = .ok (.iload_n 2, 1) := by decide +kernel
theorem dX9_passes_131 : decode cX9_passes 131 = .ok (.aaload, 1) := by decide +kernel
theorem dX9_passes_132 : decode cX9_passes 132 = .ok (.iconst 0, 1) := by decide +kernel
theorem dX9_passes_133 : decode cX9_passes 133 = .ok (.iaload, 1) := by decide +kernel
theorem dX9_passes_134 : decode cX9_passes 134 = .ok (.invokevirtual 96, 3) := by decide +kernel
theorem dX9_passes_137 : decode cX9_passes 137 = .ok (.iinc 2 1, 3) := by decide +kernel
theorem dX9_passes_140 : decode cX9_passes 140 = .ok (.goto (-126), 3) := by decide +kernel
theorem dX9_passes_143 : decode cX9_passes 143 = .ok (.iconst 0, 1) := by decide +kernel
theorem dX9_passes_144 : decode cX9_passes 144 = .ok (.istore_n 2, 1) := by decide +kernel
theorem dX9_passes_145 : decode cX9_passes 145 = .ok (.iload_n 2, 1) := by decide +kernel
theorem dX9_passes_146 : decode cX9_passes 146 = .ok (.aload_n 0, 1) := by decide +kernel
theorem dX9_passes_147 : decode cX9_passes 147 = .ok (.getfield 93, 3) := by decide +kernel
theorem dX9_passes_150 : decode cX9_passes 150 = .ok (.if_icmp .ge 67, 3) := by decide +kernel
theorem dX9_passes_153 : decode cX9_passes 153 = .ok (.aload_n 0, 1) := by decide +kernel
theorem dX9_passes_154 : decode cX9_passes 154 = .ok (.aload_n 0, 1) := by decide +kernel
theorem dX9_passes_155 : decode cX9_passes 155 = .ok (.getfield 21, 3) := by decide +kernel
theorem dX9_passes_158 : decode cX9_passes 158 = .ok (.iload_n 2, 1) := by decide +kernel
theorem dX9_passes_159 : decode cX9_passes 159 = .ok (.aaload, 1) := by decide +kernel
theorem dX9_passes_160 : decode cX9_passes 160 = .ok (.invokevirtual 100, 3) := by decide +kernel
theorem dX9_passes_163 : decode cX9_passes 163 = .ok (.ifCond .le 6, 3) := by decide +kernel
theorem dX9_passes_166 : decode cX9_passes 166 = .ok (.goto 45, 3) := by decide +kernel
theorem dX9_passes_169 : decode cX9_passes 169 = .ok (.aload_n 0, 1) := by decide +kernel
theorem dX9_passes_170 : decode cX9_passes 170 = .ok (.iconst 2, 1) := by decide +kernel
theorem dX9_passes_171 : decode cX9_passes 171 = .ok (.aload_n 0, 1) := by decide +kernel
theorem dX9_passes_172 : decode cX9_passes 172 = .ok (.getfield 21, 3) := by decide +kernel
theorem dX9_passes_175 : decode cX9_passes 175 = .ok (.iload_n 2, 1) := by decide +kernel
theorem dX9_passes_176 : decode cX9_passes 176 = .ok (.aaload, 1) := by decide +kernel
theorem dX9_passes_177 : decode cX9_passes 177 = .ok (.iconst 0, 1) := by decide +kernel
theorem dX9_passes_178 : decode cX9_passes 178 = .ok (.iaload, 1) := by decide +kernel
theorem dX9_passes_179 : decode cX9_passes 179 = .ok (.aload_n 0, 1) := by decide +kernel
theorem dX9_passes_180 : decode cX9_passes 180 = .ok (.getfield 21, 3) := by decide +kernel
theorem dX9_passes_183 : decode cX9_passes 183 = .ok (.iload_n 2, 1) := by decide +kernel
theorem dX9_passes_184 : decode cX9_passes 184 = .ok (.aaload, 1) := by decide +kernel
theorem dX9_passes_185 : decode cX9_passes 185 = .ok (.iconst 1, 1) := by decide +kernel
theorem dX9_passes_186 : decode cX9_passes 186 = .ok (.iaload, 1) := by decide +kernel
theorem dX9_passes_187 : decode cX9_passes 187 = .ok (.invokevirtual 96, 3) := by decide +kernel
theorem dX9_passes_190 : decode cX9_passes 190 = .ok (.aload_n 0, 1) := by decide +kernel
theorem dX9_passes_191 : decode cX9_passes 191 = .ok (.iload_n 2, 1) := by decide +kernel
theorem dX9_passes_192 : decode cX9_passes 192 = .ok (.invokevirtual 104, 3) := by decide +kernel
theorem dX9_passes_195 : decode cX9_passes 195 = .ok (.aload_n 0, 1) := by decide +kernel
theorem dX9_passes_196 : decode cX9_passes 196 = .ok (.dup, 1) := by decide +kernel
theorem dX9_passes_197 : decode cX9_passes 197 = .ok (.getfield 74, 3) := by decide +kernel
theorem dX9_passes_200 : decode cX9_passes 200 = .ok (.iconst 5, 1) := by decide +kernel
theorem dX9_passes_201 : decode cX9_passes 201 = .ok (.iadd, 1) := by decide +kernel
theorem dX9_passes_202 : decode cX9_passes 202 = .ok (.putfield 74, 3) := by decide +kernel
theorem dX9_passes_205 : decode cX9_passes 205 = .ok (.iinc 1 1, 3) := by decide +kernel
theorem dX9_passes_208 : decode cX9_passes 208 = .ok (.iinc 2 (-1), 3) := by decide +kernel
theorem dX9_passes_211 : decode cX9_passes 211 = .ok (.iinc 2 1, 3) := by decide +kernel
theorem dX9_passes_214 : decode cX9_passes 214 = .ok (.goto (-69), 3) := by decide +kernel
theorem dX9_passes_217 : decode cX9_passes 217 = .ok (.aload_n 0, 1) := by decide +kernel
theorem dX9_passes_218 : decode cX9_passes 218 = .ok (.iconst 0, 1) := by decide +kernel
theorem dX9_passes_219 : decode cX9_passes 219 = .ok (.aload_n 0, 1) := by decide +kernel
theorem dX9_passes_220 : decode cX9_passes 220 = .ok (.getfield 74, 3) := by decide +kernel
theorem dX9_passes_223 : decode cX9_passes 223 = .ok (.iconst 3, 1) := by decide +kernel
theorem dX9_passes_224 : decode cX9_passes 224 = .ok (.aload_n 0, 1) := by decide +kernel
theorem dX9_passes_225 : decode cX9_passes 225 = .ok (.getfield 79, 3) := by decide +kernel
theorem dX9_passes_228 : decode cX9_passes 228 = .ok (.imul, 1) := by decide +kernel
theorem dX9_passes_229 : decode cX9_passes 229 = .ok (.isub, 1) := by decide +kernel
theorem dX9_passes_230 : decode cX9_passes 230 = .ok (.invokestatic 84, 3) := by decide +kernel
theorem dX9_passes_233 : decode cX9_passes 233 = .ok (.putfield 74, 3) := by decide +kernel
theorem dX9_passes_236 : decode cX9_passes 236 = .ok (.aload_n 0, 1) := by decide +kernel
theorem dX9_passes_237 : decode cX9_passes 237 = .ok (.getfield 74, 3) := by decide +kernel
theorem dX9_passes_240 : decode cX9_passes 240 = .ok (.bipush 20, 2) := by decide +kernel
theorem dX9_passes_242 : decode cX9_passes 242 = .ok (.if_icmp .le 21, 3) := by decide +kernel
theorem dX9_passes_245 : decode cX9_passes 245 = .ok (.aload_n 0, 1) := by decide +kernel
theorem dX9_passes_246 : decode cX9_passes 246 = .ok (.bipush 9, 2) := by decide +kernel
theorem dX9_passes_248 : decode cX9_passes 248 = .ok (.aload_n 0, 1) := by decide +kernel
theorem dX9_passes_249 : decode cX9_passes 249 = .ok (.getfield 79, 3) := by decide +kernel
theorem dX9_passes_252 : decode cX9_passes 252 = .ok (.iconst 1, 1) := by decide +kernel
theorem dX9_passes_253 : decode cX9_passes 253 = .ok (.iadd, 1) := by decide +kernel
theorem dX9_passes_254 : decode cX9_passes 254 = .ok (.invokestatic 108, 3) := by decide +kernel
theorem dX9_passes_257 : decode cX9_passes 257 = .ok (.putfield 79, 3) := by decide +kernel
theorem dX9_passes_260 : decode cX9_passes 260 = .ok (.goto 24, 3) := by decide +kernel
theorem dX9_passes_263 : decode cX9_passes 263 = .ok (.aload_n 0, 1) := by decide +kernel
theorem dX9_passes_264 : decode cX9_passes 264 = .ok (.getfield 74, 3) := by decide +kernel
theorem dX9_passes_267 : decode cX9_passes 267 = .ok (.ifCond .ne 17, 3) := by decide +kernel
theorem dX9_passes_270 : decode cX9_passes 270 = .ok (.aload_n 0, 1) := by decide +kernel
theorem dX9_passes_271 : decode cX9_passes 271 = .ok (.iconst 0, 1) := by decide +kernel
theorem dX9_passes_272 : decode cX9_passes 272 = .ok (.aload_n 0, 1) := by decide +kernel
theorem dX9_passes_273 : decode cX9_passes 273 = .ok (.getfield 79, 3) := by decide +kernel
theorem dX9_passes_276 : decode cX9_passes 276 = .ok (.iconst 1, 1) := by decide +kernel
theorem dX9_passes_277 : decode cX9_passes 277 = .ok (.isub, 1) := by decide +kernel
theorem dX9_passes_278 : decode cX9_passes 278 = .ok (.invokestatic 84, 3) := by decide +kernel
theorem dX9_passes_281 : decode cX9_passes 281 = .ok (.putfield 79, 3) := by decide +kernel
theorem dX9_passes_284 : decode cX9_passes 284 = .ok (.iconst 0, 1) := by decide +kernel
theorem dX9_passes_285 : decode cX9_passes 285 = .ok (.istore_n 2, 1) := by decide +kernel
theorem dX9_passes_286 : decode cX9_passes 286 = .ok (.iload_n 2, 1) := by decide +kernel
theorem dX9_passes_287 : decode cX9_passes 287 = .ok (.aload_n 0, 1) := by decide +kernel
theorem dX9_passes_288 : decode cX9_passes 288 = .ok (.getfield 46, 3) := by decide +kernel
theorem dX9_passes_291 : decode cX9_passes 291 = .ok (.if_icmp .ge 44, 3) := by decide +kernel
theorem dX9_passes_294 : decode cX9_passes 294 = .ok (.aload_n 0, 1) := by decide +kernel
theorem dX9_passes_295 : decode cX9_passes 295 = .ok (.getfield 18, 3) := by decide +kernel
theorem dX9_passes_298 : decode cX9_passes 298 = .ok (.iload_n 2, 1) := by decide +kernel
theorem dX9_passes_299 : decode cX9_passes 299 = .ok (.aaload, 1) := by decide +kernel
theorem dX9_passes_300 : decode cX9_passes 300 = .ok (.iconst 5, 1) := by decide +kernel
theorem dX9_passes_301 : decode cX9_passes 301 = .ok (.dup2, 1) := by decide +kernel
theorem dX9_passes_302 : decode cX9_passes 302 = .ok (.iaload, 1) := by decide +kernel
theorem dX9_passes_303 : decode cX9_passes 303 = .ok (.iconst 1, 1) := by decide +kernel
theorem dX9_passes_304 : decode cX9_passes 304 = .ok (.isub, 1) := by decide +kernel
theorem dX9_passes_305 : decode cX9_passes 305 = .ok (.iastore, 1) := by decide +kernel
theorem dX9_passes_306 : decode cX9_passes 306 = .ok (.aload_n 0, 1) := by decide +kernel
theorem dX9_passes_307 : decode cX9_passes 307 = .ok (.getfield 18, 3) := by decide +kernel
theorem dX9_passes_310 : decode cX9_passes 310 = .ok (.iload_n 2, 1) := by decide +kernel
theorem dX9_passes_311 : decode cX9_passes 311 = .ok (.aaload, 1) := by decide +kernel
theorem dX9_passes_312 : decode cX9_passes 312 = .ok (.iconst 5, 1) := by decide +kernel
theorem dX9_passes_313 : decode cX9_passes 313 = .ok (.iaload, 1) := by decide +kernel
theorem dX9_passes_314 : decode cX9_passes 314 = .ok (.ifCond .le 6, 3) := by decide +kernel
theorem dX9_passes_317 : decode cX9_passes 317 = .ok (.goto 12, 3) := by decide +kernel
theorem dX9_passes_320 : decode cX9_passes 320 = .ok (.aload_n 0, 1) := by decide +kernel
theorem dX9_passes_321 : decode cX9_passes 321 = .ok (.iload_n 2, 1) := by decide +kernel
theorem dX9_passes_322 : decode cX9_passes 322 = .ok (.iconst 1, 1) := by decide +kernel
theorem dX9_passes_323 : decode cX9_passes 323 = .ok (.invokevirtual 111, 3) := by decide +kernel
theorem dX9_passes_326 : decode cX9_passes 326 = .ok (.iinc 2 (-1), 3) := by decide +kernel
theorem dX9_passes_329 : decode cX9_passes 329 = .ok (.iinc 2 1, 3) := by decide +kernel
theorem dX9_passes_332 : decode cX9_passes 332 = .ok (.goto (-46), 3) := by decide +kernel
theorem dX9_passes_335 : decode cX9_passes 335 = .ok (.iload_n 1, 1) := by decide +kernel
theorem dX9_passes_336 : decode cX9_passes 336 = .ok (.ireturn, 1) := by decide +kernel
theorem dX9_bestBidder_0 : decode cX9_bestBidder 0 = .ok (.iconst (-1), 1) := by decide +kernel
theorem dX9_bestBidder_1 : decode cX9_bestBidder 1 = .ok (.istore_n 3, 1) := by decide +kernel
theorem dX9_bestBidder_2 : decode cX9_bestBidder 2 = .ok (.iconst 0, 1) := by decide +kernel
theorem dX9_bestBidder_3 : decode cX9_bestBidder 3 = .ok (.istore 4, 2) := by decide +kernel
theorem dX9_bestBidder_5 : decode cX9_bestBidder 5 = .ok (.iload 4, 2) := by decide +kernel
theorem dX9_bestBidder_7 : decode cX9_bestBidder 7 = .ok (.aload_n 0, 1) := by decide +kernel
theorem dX9_bestBidder_8 : decode cX9_bestBidder 8 = .ok (.getfield 46, 3) := by decide +kernel
theorem dX9_bestBidder_11 : decode cX9_bestBidder 11 = .ok (.if_icmp .ge 56, 3) := by decide +kernel
theorem dX9_bestBidder_14 : decode cX9_bestBidder 14 = .ok (.aload_n 0, 1) := by decide +kernel
theorem dX9_bestBidder_15 : decode cX9_bestBidder 15 = .ok (.getfield 18, 3) := by decide +kernel
theorem dX9_bestBidder_18 : decode cX9_bestBidder 18 = .ok (.iload 4, 2) := by decide +kernel
theorem dX9_bestBidder_20 : decode cX9_bestBidder 20 = .ok (.aaload, 1) := by decide +kernel
theorem dX9_bestBidder_21 : decode cX9_bestBidder 21 = .ok (.iconst 1, 1) := by decide +kernel
theorem dX9_bestBidder_22 : decode cX9_bestBidder 22 = .ok (.iaload, 1) := by decide +kernel
theorem dX9_bestBidder_23 : decode cX9_bestBidder 23 = .ok (.iload_n 1, 1) := by decide +kernel
theorem dX9_bestBidder_24 : decode cX9_bestBidder 24 = .ok (.if_icmp .ne 37, 3) := by decide +kernel
theorem dX9_bestBidder_27 : decode cX9_bestBidder 27 = .ok (.aload_n 2, 1) := by decide +kernel
theorem dX9_bestBidder_28 : decode cX9_bestBidder 28 = .ok (.iload 4, 2) := by decide +kernel
theorem dX9_bestBidder_30 : decode cX9_bestBidder 30 = .ok (.iaload, 1) := by decide +kernel
theorem dX9_bestBidder_31 : decode cX9_bestBidder 31 = .ok (.ifCond .le 30, 3) := by decide +kernel
theorem dX9_bestBidder_34 : decode cX9_bestBidder 34 = .ok (.iload_n 3, 1) := by decide +kernel
theorem dX9_bestBidder_35 : decode cX9_bestBidder 35 = .ok (.ifCond .lt 23, 3) := by decide +kernel
theorem dX9_bestBidder_38 : decode cX9_bestBidder 38 = .ok (.aload_n 0, 1) := by decide +kernel
theorem dX9_bestBidder_39 : decode cX9_bestBidder 39 = .ok (.getfield 18, 3) := by decide +kernel
theorem dX9_bestBidder_42 : decode cX9_bestBidder 42 = .ok (.iload 4, 2) := by decide +kernel
theorem dX9_bestBidder_44 : decode cX9_bestBidder 44 = .ok (.aaload, 1) := by decide +kernel
theorem dX9_bestBidder_45 : decode cX9_bestBidder 45 = .ok (.iconst 3, 1) := by decide +kernel
theorem dX9_bestBidder_46 : decode cX9_bestBidder 46 = .ok (.iaload, 1) := by decide +kernel
theorem dX9_bestBidder_47 : decode cX9_bestBidder 47 = .ok (.aload_n 0, 1) := by decide +kernel
theorem dX9_bestBidder_48 : decode cX9_bestBidder 48 = .ok (.getfield 18, 3) := by decide +kernel
theorem dX9_bestBidder_51 : decode cX9_bestBidder 51 = .ok (.iload_n 3, 1) := by decide +kernel
theorem dX9_bestBidder_52 : decode cX9_bestBidder 52 = .ok (.aaload, 1) := by decide +kernel
theorem dX9_bestBidder_53 : decode cX9_bestBidder 53 = .ok (.iconst 3, 1) := by decide +kernel
theorem dX9_bestBidder_54 : decode cX9_bestBidder 54 = .ok (.iaload, 1) := by decide +kernel
theorem dX9_bestBidder_55 : decode cX9_bestBidder 55 = .ok (.if_icmp .le 6, 3) := by decide +kernel
theorem dX9_bestBidder_58 : decode cX9_bestBidder 58 = .ok (.iload 4, 2) := by decide +kernel
theorem dX9_bestBidder_60 : decode cX9_bestBidder 60 = .ok (.istore_n 3, 1) := by decide +kernel
theorem dX9_bestBidder_61 : decode cX9_bestBidder 61 = .ok (.iinc 4 1, 3) := by decide +kernel
theorem dX9_bestBidder_64 : decode cX9_bestBidder 64 = .ok (.goto (-59), 3) := by decide +kernel
theorem dX9_bestBidder_67 : decode cX9_bestBidder 67 = .ok (.iload_n 3, 1) := by decide +kernel
theorem dX9_bestBidder_68 : decode cX9_bestBidder 68 = .ok (.ireturn, 1) := by decide +kernel
theorem dX9_cheapest_0 : decode cX9_cheapest 0 = .ok (.iconst (-1), 1) := by decide +kernel
theorem dX9_cheapest_1 : decode cX9_cheapest 1 = .ok (.istore_n 3, 1) := by decide +kernel
theorem dX9_cheapest_2 : decode cX9_cheapest 2 = .ok (.iconst 0, 1) := by decide +kernel
theorem dX9_cheapest_3 : decode cX9_cheapest 3 = .ok (.istore 4, 2) := by decide +kernel
theorem dX9_cheapest_5 : decode cX9_cheapest 5 = .ok (.iload 4, 2) := by decide +kernel
theorem dX9_cheapest_7 : decode cX9_cheapest 7 = .ok (.aload_n 0, 1) := by decide +kernel
theorem dX9_cheapest_8 : decode cX9_cheapest 8 = .ok (.getfield 93, 3) := by decide +kernel
theorem dX9_cheapest_11 : decode cX9_cheapest 11 = .ok (.if_icmp .ge 60, 3) := by decide +kernel
theorem dX9_cheapest_14 : decode cX9_cheapest 14 = .ok (.aload_n 0, 1) := by decide +kernel
theorem dX9_cheapest_15 : decode cX9_cheapest 15 = .ok (.getfield 21, 3) := by decide +kernel
theorem dX9_cheapest_18 : decode cX9_cheapest 18 = .ok (.iload 4, 2) := by decide +kernel
theorem dX9_cheapest_20 : decode cX9_cheapest 20 = .ok (.aaload, 1) := by decide +kernel
theorem dX9_cheapest_21 : decode cX9_cheapest 21 = .ok (.iconst 0, 1) := by decide +kernel
theorem dX9_cheapest_22 : decode cX9_cheapest 22 = .ok (.iaload, 1) := by decide +kernel
theorem dX9_cheapest_23 : decode cX9_cheapest 23 = .ok (.iload_n 1, 1) := by decide +kernel
theorem dX9_cheapest_24 : decode cX9_cheapest 24 = .ok (.if_icmp .ne 41, 3) := by decide +kernel
theorem dX9_cheapest_27 : decode cX9_cheapest 27 = .ok (.aload_n 2, 1) := by decide +kernel
theorem dX9_cheapest_28 : decode cX9_cheapest 28 = .ok (.iload 4, 2) := by decide +kernel
theorem dX9_cheapest_30 : decode cX9_cheapest 30 = .ok (.baload, 1) := by decide +kernel
theorem dX9_cheapest_31 : decode cX9_cheapest 31 = .ok (.ifCond .ne 34, 3) := by decide +kernel
theorem dX9_cheapest_34 : decode cX9_cheapest 34 = .ok (.iload_n 3, 1) := by decide +kernel
theorem dX9_cheapest_35 : decode cX9_cheapest 35 = .ok (.ifCond .lt 27, 3) := by decide +kernel
theorem dX9_cheapest_38 : decode cX9_cheapest 38 = .ok (.aload_n 0, 1) := by decide +kernel
theorem dX9_cheapest_39 : decode cX9_cheapest 39 = .ok (.aload_n 0, 1) := by decide +kernel
theorem dX9_cheapest_40 : decode cX9_cheapest 40 = .ok (.getfield 21, 3) := by decide +kernel
theorem dX9_cheapest_43 : decode cX9_cheapest 43 = .ok (.iload 4, 2) := by decide +kernel
theorem dX9_cheapest_45 : decode cX9_cheapest 45 = .ok (.aaload, 1) := by decide +kernel
theorem dX9_cheapest_46 : decode cX9_cheapest 46 = .ok (.invokevirtual 100, 3) := by decide +kernel
theorem dX9_cheapest_49 : decode cX9_cheapest 49 = .ok (.aload_n 0, 1) := by decide +kernel
theorem dX9_cheapest_50 : decode cX9_cheapest 50 = .ok (.aload_n 0, 1) := by decide +kernel
theorem dX9_cheapest_51 : decode cX9_cheapest 51 = .ok (.getfield 21, 3) := by decide +kernel
theorem dX9_cheapest_54 : decode cX9_cheapest 54 = .ok (.iload_n 3, 1) := by decide +kernel
theorem dX9_cheapest_55 : decode cX9_cheapest 55 = .ok (.aaload, 1) := by decide +kernel
theorem dX9_cheapest_56 : decode cX9_cheapest 56 = .ok (.invokevirtual 100, 3) := by decide +kernel
theorem dX9_cheapest_59 : decode cX9_cheapest 59 = .ok (.if_icmp .ge 6, 3) := by decide +kernel
theorem dX9_cheapest_62 : decode cX9_cheapest 62 = .ok (.iload 4, 2) := by decide +kernel
theorem dX9_cheapest_64 : decode cX9_cheapest 64 = .ok (.istore_n 3, 1) := by decide +kernel
theorem dX9_cheapest_65 : decode cX9_cheapest 65 = .ok (.iinc 4 1, 3) := by decide +kernel
theorem dX9_cheapest_68 : decode cX9_cheapest 68 = .ok (.goto (-63), 3) := by decide +kernel
theorem dX9_cheapest_71 : decode cX9_cheapest 71 = .ok (.iload_n 3, 1) := by decide +kernel
theorem dX9_cheapest_72 : decode cX9_cheapest 72 = .ok (.ireturn, 1) := by decide +kernel
theorem dX9_holds_0 : decode cX9_holds 0 = .ok (.aload_n 0, 1) := by decide +kernel
theorem dX9_holds_1 : decode cX9_holds 1 = .ok (.getfield 46, 3) := by decide +kernel
theorem dX9_holds_4 : decode cX9_holds 4 = .ok (.newarray .int, 2) := by decide +kernel
theorem dX9_holds_6 : decode cX9_holds 6 = .ok (.astore_n 2, 1) := by decide +kernel
theorem dX9_holds_7 : decode cX9_holds 7 = .ok (.iconst 0, 1) := by decide +kernel
theorem dX9_holds_8 : decode cX9_holds 8 = .ok (.istore_n 3, 1) := by decide +kernel
theorem dX9_holds_9 : decode cX9_holds 9 = .ok (.iload_n 3, 1) := by decide +kernel
theorem dX9_holds_10 : decode cX9_holds 10 = .ok (.aload_n 0, 1) := by decide +kernel
theorem dX9_holds_11 : decode cX9_holds 11 = .ok (.getfield 46, 3) := by decide +kernel
theorem dX9_holds_14 : decode cX9_holds 14 = .ok (.if_icmp .ge 40, 3) := by decide +kernel
theorem dX9_holds_17 : decode cX9_holds 17 = .ok (.aload_n 2, 1) := by decide +kernel
theorem dX9_holds_18 : decode cX9_holds 18 = .ok (.iload_n 3, 1) := by decide +kernel
theorem dX9_holds_19 : decode cX9_holds 19 = .ok (.aload_n 0, 1) := by decide +kernel
theorem dX9_holds_20 : decode cX9_holds 20 = .ok (.getfield 18, 3) := by decide +kernel
theorem dX9_holds_23 : decode cX9_holds 23 = .ok (.iload_n 3, 1) := by decide +kernel
theorem dX9_holds_24 : decode cX9_holds 24 = .ok (.aaload, 1) := by decide +kernel
theorem dX9_holds_25 : decode cX9_holds 25 = .ok (.iconst 2, 1) := by decide +kernel
theorem dX9_holds_26 : decode cX9_holds 26 = .ok (.iaload, 1) := by decide +kernel
theorem dX9_holds_27 : decode cX9_holds 27 = .ok (.aload_n 0, 1) := by decide +kernel
theorem dX9_holds_28 : decode cX9_holds 28 = .ok (.getfield 18, 3) := by decide +kernel
theorem dX9_holds_31 : decode cX9_holds 31 = .ok (.iload_n 3, 1) := by decide +kernel
theorem dX9_holds_32 : decode cX9_holds 32 = .ok (.aaload, 1) := by decide +kernel
theorem dX9_holds_33 : decode cX9_holds 33 = .ok (.iconst 4, 1) := by decide +kernel
theorem dX9_holds_34 : decode cX9_holds 34 = .ok (.iaload, 1) := by decide +kernel
theorem dX9_holds_35 : decode cX9_holds 35 = .ok (.aload_n 0, 1) := by decide +kernel
theorem dX9_holds_36 : decode cX9_holds 36 = .ok (.getfield 18, 3) := by decide +kernel
theorem dX9_holds_39 : decode cX9_holds 39 = .ok (.iload_n 3, 1) := by decide +kernel
theorem dX9_holds_40 : decode cX9_holds 40 = .ok (.aaload, 1) := by decide +kernel
theorem dX9_holds_41 : decode cX9_holds 41 = .ok (.iconst 3, 1) := by decide +kernel
theorem dX9_holds_42 : decode cX9_holds 42 = .ok (.iaload, 1) := by decide +kernel
theorem dX9_holds_43 : decode cX9_holds 43 = .ok (.idiv, 1) := by decide +kernel
theorem dX9_holds_44 : decode cX9_holds 44 = .ok (.invokestatic 108, 3) := by decide +kernel
theorem dX9_holds_47 : decode cX9_holds 47 = .ok (.iastore, 1) := by decide +kernel
theorem dX9_holds_48 : decode cX9_holds 48 = .ok (.iinc 3 1, 3) := by decide +kernel
theorem dX9_holds_51 : decode cX9_holds 51 = .ok (.goto (-42), 3) := by decide +kernel
theorem dX9_holds_54 : decode cX9_holds 54 = .ok (.bipush 60, 2) := by decide +kernel
theorem dX9_holds_56 : decode cX9_holds 56 = .ok (.newarray .boolean, 2) := by decide +kernel
theorem dX9_holds_58 : decode cX9_holds 58 = .ok (.astore_n 3, 1) := by decide +kernel
theorem dX9_holds_59 : decode cX9_holds 59 = .ok (.bipush 60, 2) := by decide +kernel
theorem dX9_holds_61 : decode cX9_holds 61 = .ok (.newarray .int, 2) := by decide +kernel
theorem dX9_holds_63 : decode cX9_holds 63 = .ok (.astore 4, 2) := by decide +kernel
theorem dX9_holds_65 : decode cX9_holds 65 = .ok (.bipush 60, 2) := by decide +kernel
theorem dX9_holds_67 : decode cX9_holds 67 = .ok (.newarray .int, 2) := by decide +kernel
theorem dX9_holds_69 : decode cX9_holds 69 = .ok (.astore 5, 2) := by decide +kernel
theorem dX9_holds_71 : decode cX9_holds 71 = .ok (.iconst 0, 1) := by decide +kernel
theorem dX9_holds_72 : decode cX9_holds 72 = .ok (.istore 6, 2) := by decide +kernel
theorem dX9_holds_74 : decode cX9_holds 74 = .ok (.iconst 1, 1) := by decide +kernel
theorem dX9_holds_75 : decode cX9_holds 75 = .ok (.istore 7, 2) := by decide +kernel
theorem dX9_holds_77 : decode cX9_holds 77 = .ok (.aload_n 0, 1) := by decide +kernel
theorem dX9_holds_78 : decode cX9_holds 78 = .ok (.iload_n 1, 1) := by decide +kernel
theorem dX9_holds_79 : decode cX9_holds 79 = .ok (.aload_n 2, 1) := by decide +kernel
theorem dX9_holds_80 : decode cX9_holds 80 = .ok (.invokevirtual 115, 3) := by decide +kernel
theorem dX9_holds_83 : decode cX9_holds 83 = .ok (.istore 8, 2) := by decide +kernel
theorem dX9_holds_85 : decode cX9_holds 85 = .ok (.aload_n 0, 1) := by decide +kernel
theorem dX9_holds_86 : decode cX9_holds 86 = .ok (.iload_n 1, 1) := by decide +kernel
theorem dX9_holds_87 : decode cX9_holds 87 = .ok (.aload_n 3, 1) := by decide +kernel
theorem dX9_holds_88 : decode cX9_holds 88 = .ok (.invokevirtual 119, 3) := by decide +kernel
theorem dX9_holds_91 : decode cX9_holds 91 = .ok (.istore 9, 2) := by decide +kernel
theorem dX9_holds_93 : decode cX9_holds 93 = .ok (.iload 8, 2) := by decide +kernel
theorem dX9_holds_95 : decode cX9_holds 95 = .ok (.ifCond .lt 35, 3) := by decide +kernel
theorem dX9_holds_98 : decode cX9_holds 98 = .ok (.iload 9, 2) := by decide +kernel
theorem dX9_holds_100 : decode cX9_holds 100 = .ok (.ifCond .lt 30, 3) := by decide +kernel
theorem dX9_holds_103 : decode cX9_holds 103 = .ok (.aload_n 0, 1) := by decide +kernel
theorem dX9_holds_104 : decode cX9_holds 104 = .ok (.getfield 18, 3) := by decide +kernel
theorem dX9_holds_107 : decode cX9_holds 107 = .ok (.iload 8, 2) := by decide +kernel
theorem dX9_holds_109 : decode cX9_holds 109 = .ok (.aaload, 1) := by decide +kernel
theorem dX9_holds_110 : decode cX9_holds 110 = .ok (.iconst 3, 1) := by decide +kernel
theorem dX9_holds_111 : decode cX9_holds 111 = .ok (.iaload, 1) := by decide +kernel
theorem dX9_holds_112 : decode cX9_holds 112 = .ok (.aload_n 0, 1) := by decide +kernel
theorem dX9_holds_113 : decode cX9_holds 113 = .ok (.aload_n 0, 1) := by decide +kernel
theorem dX9_holds_114 : decode cX9_holds 114 = .ok (.getfield 21, 3) := by decide +kernel
theorem dX9_holds_117 : decode cX9_holds 117 = .ok (.iload 9, 2) := by decide +kernel
theorem dX9_holds_119 : decode cX9_holds 119 = .ok (.aaload, 1) := by decide +kernel
theorem dX9_holds_120 : decode cX9_holds 120 = .ok (.invokevirtual 100, 3) := by decide +kernel
theorem dX9_holds_123 : decode cX9_holds 123 = .ok (.if_icmp .lt 7, 3) := by decide +kernel
theorem dX9_holds_126 : decode cX9_holds 126 = .ok (.iconst 1, 1) := by decide +kernel
theorem dX9_holds_127 : decode cX9_holds 127 = .ok (.goto 4, 3) := by decide +kernel
theorem dX9_holds_130 : decode cX9_holds 130 = .ok (.iconst 0, 1) := by decide +kernel
theorem dX9_holds_131 : decode cX9_holds 131 = .ok (.istore 10, 2) := by decide +kernel
theorem dX9_holds_133 : decode cX9_holds 133 = .ok (.iload 10, 2) := by decide +kernel
theorem dX9_holds_135 : decode cX9_holds 135 = .ok (.ifCond .ne 32, 3) := by decide +kernel
theorem dX9_holds_138 : decode cX9_holds 138 = .ok (.iload 6, 2) := by decide +kernel
theorem dX9_holds_140 : decode cX9_holds 140 = .ok (.ifCond .le 77, 3) := by decide +kernel
theorem dX9_holds_143 : decode cX9_holds 143 = .ok (.iload 8, 2) := by decide +kernel
theorem dX9_holds_145 : decode cX9_holds 145 = .ok (.ifCond .lt 72, 3) := by decide +kernel
theorem dX9_holds_148 : decode cX9_holds 148 = .ok (.iload 7, 2) := by decide +kernel
theorem dX9_holds_150 : decode cX9_holds 150 = .ok (.aload_n 0, 1) := by decide +kernel
theorem dX9_holds_151 : decode cX9_holds 151 = .ok (.getfield 18, 3) := by decide +kernel
theorem dX9_holds_154 : decode cX9_holds 154 = .ok (.iload 8, 2) := by decide +kernel
theorem dX9_holds_156 : decode cX9_holds 156 = .ok (.aaload, 1) := by decide +kernel
theorem dX9_holds_157 : decode cX9_holds 157 = .ok (.iconst 3, 1) := by decide +kernel
theorem dX9_holds_158 : decode cX9_holds 158 = .ok (.iaload, 1) := by decide +kernel
theorem dX9_holds_159 : decode cX9_holds 159 = .ok (.invokestatic 84, 3) := by decide +kernel
theorem dX9_holds_162 : decode cX9_holds 162 = .ok (.istore 7, 2) := by decide +kernel
theorem dX9_holds_164 : decode cX9_holds 164 = .ok (.goto 53, 3) := by decide +kernel
theorem dX9_holds_167 : decode cX9_holds 167 = .ok (.iconst 1, 1) := by decide +kernel
theorem dX9_holds_168 : decode cX9_holds 168 = .ok (.aload_n 0, 1) := by decide +kernel
theorem dX9_holds_169 : decode cX9_holds 169 = .ok (.aload_n 0, 1) := by decide +kernel
theorem dX9_holds_170 : decode cX9_holds 170 = .ok (.getfield 21, 3) := by decide +kernel
theorem dX9_holds_173 : decode cX9_holds 173 = .ok (.iload 9, 2) := by decide +kernel
theorem dX9_holds_175 : decode cX9_holds 175 = .ok (.aaload, 1) := by decide +kernel
theorem dX9_holds_176 : decode cX9_holds 176 = .ok (.invokevirtual 100, 3) := by decide +kernel
theorem dX9_holds_179 : decode cX9_holds 179 = .ok (.invokestatic 84, 3) := by decide +kernel
theorem dX9_holds_182 : decode cX9_holds 182 = .ok (.istore 7, 2) := by decide +kernel
theorem dX9_holds_184 : decode cX9_holds 184 = .ok (.aload_n 2, 1) := by decide +kernel
theorem dX9_holds_185 : decode cX9_holds 185 = .ok (.iload 8, 2) := by decide +kernel
theorem dX9_holds_187 : decode cX9_holds 187 = .ok (.dup2, 1) := by decide +kernel
theorem dX9_holds_188 : decode cX9_holds 188 = .ok (.iaload, 1) := by decide +kernel
theorem dX9_holds_189 : decode cX9_holds 189 = .ok (.iconst 1, 1) := by decide +kernel
theorem dX9_holds_190 : decode cX9_holds 190 = .ok (.isub, 1) := by decide +kernel
theorem dX9_holds_191 : decode cX9_holds 191 = .ok (.iastore, 1) := by decide +kernel
theorem dX9_holds_192 : decode cX9_holds 192 = .ok (.aload_n 3, 1) := by decide +kernel
theorem dX9_holds_193 : decode cX9_holds 193 = .ok (.iload 9, 2) := by decide +kernel
theorem dX9_holds_195 : decode cX9_holds 195 = .ok (.iconst 1, 1) := by decide +kernel
theorem dX9_holds_196 : decode cX9_holds 196 = .ok (.bastore, 1) := by decide +kernel
theorem dX9_holds_197 : decode cX9_holds 197 = .ok (.aload 4, 2) := by decide +kernel
theorem dX9_holds_199 : decode cX9_holds 199 = .ok (.iload 6, 2) := by decide +kernel
theorem dX9_holds_201 : decode cX9_holds 201 = .ok (.iload 8, 2) := by decide +kernel
theorem dX9_holds_203 : decode cX9_holds 203 = .ok (.iastore, 1) := by decide +kernel
theorem dX9_holds_204 : decode cX9_holds 204 = .ok (.aload 5, 2) := by decide +kernel
theorem dX9_holds_206 : decode cX9_holds 206 = .ok (.iload 6, 2) := by decide +kernel
theorem dX9_holds_208 : decode cX9_holds 208 = .ok (.iload 9, 2) := by decide +kernel
theorem dX9_holds_210 : decode cX9_holds 210 = .ok (.iastore, 1) := by decide +kernel
theorem dX9_holds_211 : decode cX9_holds 211 = .ok (.iinc 6 1, 3) := by decide +kernel
theorem dX9_holds_214 : decode cX9_holds 214 = .ok (.goto (-137), 3) := by decide +kernel
theorem dX9_holds_217 : decode cX9_holds 217 = .ok (.iconst 0, 1) := by decide +kernel
theorem dX9_holds_218 : decode cX9_holds 218 = .ok (.istore 8, 2) := by decide +kernel
theorem dX9_holds_220 : decode cX9_holds 220 = .ok (.iload 8, 2) := by decide +kernel
theorem dX9_holds_222 : decode cX9_holds 222 = .ok (.iload 6, 2) := by decide +kernel
theorem dX9_holds_224 : decode cX9_holds 224 = .ok (.if_icmp .ge 78, 3) := by decide +kernel
theorem dX9_holds_227 : decode cX9_holds 227 = .ok (.aload_n 0, 1) := by decide +kernel
theorem dX9_holds_228 : decode cX9_holds 228 = .ok (.getfield 18, 3) := by decide +kernel
theorem dX9_holds_231 : decode cX9_holds 231 = .ok (.aload 4, 2) := by decide +kernel
theorem dX9_holds_233 : decode cX9_holds 233 = .ok (.iload 8, 2) := by decide +kernel
theorem dX9_holds_235 : decode cX9_holds 235 = .ok (.iaload, 1) := by decide +kernel
theorem dX9_holds_236 : decode cX9_holds 236 = .ok (.aaload, 1) := by decide +kernel
theorem dX9_holds_237 : decode cX9_holds 237 = .ok (.iconst 4, 1) := by decide +kernel
theorem dX9_holds_238 : decode cX9_holds 238 = .ok (.dup2, 1) := by decide +kernel
theorem dX9_holds_239 : decode cX9_holds 239 = .ok (.iaload, 1) := by decide +kernel
theorem dX9_holds_240 : decode cX9_holds 240 = .ok (.iload 7, 2) := by decide +kernel
theorem dX9_holds_242 : decode cX9_holds 242 = .ok (.isub, 1) := by decide +kernel
theorem dX9_holds_243 : decode cX9_holds 243 = .ok (.iastore, 1) := by decide +kernel
theorem dX9_holds_244 : decode cX9_holds 244 = .ok (.aload_n 0, 1) := by decide +kernel
theorem dX9_holds_245 : decode cX9_holds 245 = .ok (.getfield 18, 3) := by decide +kernel
theorem dX9_holds_248 : decode cX9_holds 248 = .ok (.aload 4, 2) := by decide +kernel
theorem dX9_holds_250 : decode cX9_holds 250 = .ok (.iload 8, 2) := by decide +kernel
theorem dX9_holds_252 : decode cX9_holds 252 = .ok (.iaload, 1) := by decide +kernel
theorem dX9_holds_253 : decode cX9_holds 253 = .ok (.aaload, 1) := by decide +kernel
theorem dX9_holds_254 : decode cX9_holds 254 = .ok (.iconst 2, 1) := by decide +kernel
theorem dX9_holds_255 : decode cX9_holds 255 = .ok (.dup2, 1) := by decide +kernel
theorem dX9_holds_256 : decode cX9_holds 256 = .ok (.iaload, 1) := by decide +kernel
theorem dX9_holds_257 : decode cX9_holds 257 = .ok (.iconst 1, 1) := by decide +kernel
theorem dX9_holds_258 : decode cX9_holds 258 = .ok (.isub, 1) := by decide +kernel
theorem dX9_holds_259 : decode cX9_holds 259 = .ok (.iastore, 1) := by decide +kernel
theorem dX9_holds_260 : decode cX9_holds 260 = .ok (.aload_n 0, 1) := by decide +kernel
theorem dX9_holds_261 : decode cX9_holds 261 = .ok (.getfield 14, 3) := by decide +kernel
theorem dX9_holds_264 : decode cX9_holds 264 = .ok (.aload_n 0, 1) := by decide +kernel
theorem dX9_holds_265 : decode cX9_holds 265 = .ok (.getfield 21, 3) := by decide +kernel
theorem dX9_holds_268 : decode cX9_holds 268 = .ok (.aload 5, 2) := by decide +kernel
theorem dX9_holds_270 : decode cX9_holds 270 = .ok (.iload 8, 2) := by decide +kernel
theorem dX9_holds_272 : decode cX9_holds 272 = .ok (.iaload, 1) := by decide +kernel
theorem dX9_holds_273 : decode cX9_holds 273 = .ok (.aaload, 1) := by decide +kernel
theorem dX9_holds_274 : decode cX9_holds 274 = .ok (.iconst 1, 1) := by decide +kernel
theorem dX9_holds_275 : decode cX9_holds 275 = .ok (.iaload, 1) := by decide +kernel
theorem dX9_holds_276 : decode cX9_holds 276 = .ok (.aaload, 1) := by decide +kernel
theorem dX9_holds_277 : decode cX9_holds 277 = .ok (.iconst 4, 1) := by decide +kernel
theorem dX9_holds_278 : decode cX9_holds 278 = .ok (.dup2, 1) := by decide +kernel
theorem dX9_holds_279 : decode cX9_holds 279 = .ok (.iaload, 1) := by decide +kernel
theorem dX9_holds_280 : decode cX9_holds 280 = .ok (.iload 7, 2) := by decide +kernel
theorem dX9_holds_282 : decode cX9_holds 282 = .ok (.iadd, 1) := by decide +kernel
theorem dX9_holds_283 : decode cX9_holds 283 = .ok (.iastore, 1) := by decide +kernel
theorem dX9_holds_284 : decode cX9_holds 284 = .ok (.aload_n 0, 1) := by decide +kernel
theorem dX9_holds_285 : decode cX9_holds 285 = .ok (.dup, 1) := by decide +kernel
theorem dX9_holds_286 : decode cX9_holds 286 = .ok (.getfield 74, 3) := by decide +kernel
theorem dX9_holds_289 : decode cX9_holds 289 = .ok (.iload_n 1, 1) := by decide +kernel
theorem dX9_holds_290 : decode cX9_holds 290 = .ok (.iconst 1, 1) := by decide +kernel
theorem dX9_holds_291 : decode cX9_holds 291 = .ok (.iadd, 1) := by decide +kernel
theorem dX9_holds_292 : decode cX9_holds 292 = .ok (.iadd, 1) := by decide +kernel
theorem dX9_holds_293 : decode cX9_holds 293 = .ok (.putfield 74, 3) := by decide +kernel
theorem dX9_holds_296 : decode cX9_holds 296 = .ok (.iinc 8 1, 3) := by decide +kernel
theorem dX9_holds_299 : decode cX9_holds 299 = .ok (.goto (-79), 3) := by decide +kernel
theorem dX9_holds_302 : decode cX9_holds 302 = .ok (.bipush 59, 2) := by decide +kernel
theorem dX9_holds_304 : decode cX9_holds 304 = .ok (.istore 8, 2) := by decide +kernel
theorem dX9_holds_306 : decode cX9_holds 306 = .ok (.iload 8, 2) := by decide +kernel
theorem dX9_holds_308 : decode cX9_holds 308 = .ok (.ifCond .lt 22, 3) := by decide +kernel
theorem dX9_holds_311 : decode cX9_holds 311 = .ok (.aload_n 3, 1) := by decide +kernel
theorem dX9_holds_312 : decode cX9_holds 312 = .ok (.iload 8, 2) := by decide +kernel
theorem dX9_holds_314 : decode cX9_holds 314 = .ok (.baload, 1) := by decide +kernel
theorem dX9_holds_315 : decode cX9_holds 315 = .ok (.ifCond .eq 9, 3) := by decide +kernel
theorem dX9_holds_318 : decode cX9_holds 318 = .ok (.aload_n 0, 1) := by decide +kernel
theorem dX9_holds_319 : decode cX9_holds 319 = .ok (.iload 8, 2) := by decide +kernel
theorem dX9_holds_321 : decode cX9_holds 321 = .ok (.invokevirtual 104, 3) := by decide +kernel
theorem dX9_holds_324 : decode cX9_holds 324 = .ok (.iinc 8 (-1), 3) := by decide +kernel
theorem dX9_holds_327 : decode cX9_holds 327 = .ok (.goto (-21), 3) := by decide +kernel
theorem dX9_holds_330 : decode cX9_holds 330 = .ok (.iload 6, 2) := by decide +kernel
theorem dX9_holds_332 : decode cX9_holds 332 = .ok (.ifCond .le 11, 3) := by decide +kernel
theorem dX9_holds_335 : decode cX9_holds 335 = .ok (.aload_n 0, 1) := by decide +kernel
theorem dX9_holds_336 : decode cX9_holds 336 = .ok (.iconst 1, 1) := by decide +kernel
theorem dX9_holds_337 : decode cX9_holds 337 = .ok (.iload_n 1, 1) := by decide +kernel
theorem dX9_holds_338 : decode cX9_holds 338 = .ok (.iload 7, 2) := by decide +kernel
theorem dX9_holds_340 : decode cX9_holds 340 = .ok (.invokevirtual 96, 3) := by decide +kernel
theorem dX9_holds_343 : decode cX9_holds 343 = .ok (.iconst 0, 1) := by decide +kernel
theorem dX9_holds_344 : decode cX9_holds 344 = .ok (.istore 8, 2) := by decide +kernel
theorem dX9_holds_346 : decode cX9_holds 346 = .ok (.iload 8, 2) := by decide +kernel
theorem dX9_holds_348 : decode cX9_holds 348 = .ok (.aload_n 0, 1) := by decide +kernel
theorem dX9_holds_349 : decode cX9_holds 349 = .ok (.getfield 46, 3) := by decide +kernel
theorem dX9_holds_352 : decode cX9_holds 352 = .ok (.if_icmp .ge 34, 3) := by decide +kernel
theorem dX9_holds_355 : decode cX9_holds 355 = .ok (.aload_n 0, 1) := by decide +kernel
theorem dX9_holds_356 : decode cX9_holds 356 = .ok (.getfield 18, 3) := by decide +kernel
theorem dX9_holds_359 : decode cX9_holds 359 = .ok (.iload 8, 2) := by decide +kernel
theorem dX9_holds_361 : decode cX9_holds 361 = .ok (.aaload, 1) := by decide +kernel
theorem dX9_holds_362 : decode cX9_holds 362 = .ok (.iconst 2, 1) := by decide +kernel
theorem dX9_holds_363 : decode cX9_holds 363 = .ok (.iaload, 1) := by decide +kernel
theorem dX9_holds_364 : decode cX9_holds 364 = .ok (.ifCond .le 6, 3) := by decide +kernel
theorem dX9_holds_367 : decode cX9_holds 367 = .ok (.goto 13, 3) := by decide +kernel
theorem dX9_holds_370 : decode cX9_holds 370 = .ok (.aload_n 0, 1) := by decide +kernel
theorem dX9_holds_371 : decode cX9_holds 371 = .ok (.iload 8, 2) := by decide +kernel
theorem dX9_holds_373 : decode cX9_holds 373 = .ok (.iconst 0, 1) := by decide +kernel
theorem dX9_holds_374 : decode cX9_holds 374 = .ok (.invokevirtual 111, 3) := by decide +kernel
theorem dX9_holds_377 : decode cX9_holds 377 = .ok (.iinc 8 (-1), 3) := by decide +kernel
theorem dX9_holds_380 : decode cX9_holds 380 = .ok (.iinc 8 1, 3) := by decide +kernel
theorem dX9_holds_383 : decode cX9_holds 383 = .ok (.goto (-37), 3) := by decide +kernel
theorem dX9_holds_386 : decode cX9_holds 386 = .ok (.iload 6, 2) := by decide +kernel
theorem dX9_holds_388 : decode cX9_holds 388 = .ok (.ireturn, 1) := by decide +kernel
theorem dX9_acts_0 : decode cX9_acts 0 = .ok (.iload_n 1, 1) := by decide +kernel
theorem dX9_acts_1 : decode cX9_acts 1 = .ok (.bipush 16, 2) := by decide +kernel
theorem dX9_acts_3 : decode cX9_acts 3 = .ok (.idiv, 1) := by decide +kernel
theorem dX9_acts_4 : decode cX9_acts 4 = .ok (.istore_n 2, 1) := by decide +kernel
theorem dX9_acts_5 : decode cX9_acts 5 = .ok (.iload_n 2, 1) := by decide +kernel
theorem dX9_acts_6 : decode cX9_acts 6 = .ok (.iconst 3, 1) := by decide +kernel
theorem dX9_acts_7 : decode cX9_acts 7 = .ok (.irem, 1) := by decide +kernel
theorem dX9_acts_8 : decode cX9_acts 8 = .ok (.istore_n 3, 1) := by decide +kernel
theorem dX9_acts_9 : decode cX9_acts 9 = .ok (.iload_n 1, 1) := by decide +kernel
theorem dX9_acts_10 : decode cX9_acts 10 = .ok (.bipush 16, 2) := by decide +kernel
theorem dX9_acts_12 : decode cX9_acts 12 = .ok (.irem, 1) := by decide +kernel
theorem dX9_acts_13 : decode cX9_acts 13 = .ok (.tableswitch 352 0 11 #[63, 63, 63, 153, 153, 153, 262, 301, 326, 346, 346, 346], 63) := by decide +kernel
theorem dX9_acts_76 : decode cX9_acts 76 = .ok (.aload_n 0, 1) := by decide +kernel
theorem dX9_acts_77 : decode cX9_acts 77 = .ok (.getfield 14, 3) := by decide +kernel
theorem dX9_acts_80 : decode cX9_acts 80 = .ok (.iload_n 3, 1) := by decide +kernel
theorem dX9_acts_81 : decode cX9_acts 81 = .ok (.aaload, 1) := by decide +kernel
theorem dX9_acts_82 : decode cX9_acts 82 = .ok (.iconst 3, 1) := by decide +kernel
theorem dX9_acts_83 : decode cX9_acts 83 = .ok (.iaload, 1) := by decide +kernel
theorem dX9_acts_84 : decode cX9_acts 84 = .ok (.ifCond .gt 26, 3) := by decide +kernel
theorem dX9_acts_87 : decode cX9_acts 87 = .ok (.aload_n 0, 1) := by decide +kernel
theorem dX9_acts_88 : decode cX9_acts 88 = .ok (.getfield 93, 3) := by decide +kernel
theorem dX9_acts_91 : decode cX9_acts 91 = .ok (.aload_n 0, 1) := by decide +kernel
theorem dX9_acts_92 : decode cX9_acts 92 = .ok (.invokevirtual 123, 3) := by decide +kernel
theorem dX9_acts_95 : decode cX9_acts 95 = .ok (.iadd, 1) := by decide +kernel
theorem dX9_acts_96 : decode cX9_acts 96 = .ok (.aload_n 0, 1) := by decide +kernel
theorem dX9_acts_97 : decode cX9_acts 97 = .ok (.getfield 14, 3) := by decide +kernel
theorem dX9_acts_100 : decode cX9_acts 100 = .ok (.iload_n 3, 1) := by decide +kernel
theorem dX9_acts_101 : decode cX9_acts 101 = .ok (.aaload, 1) := by decide +kernel
theorem dX9_acts_102 : decode cX9_acts 102 = .ok (.iconst 0, 1) := by decide +kernel
theorem dX9_acts_103 : decode cX9_acts 103 = .ok (.iaload, 1) := by decide +kernel
theorem dX9_acts_104 : decode cX9_acts 104 = .ok (.iadd, 1) := by decide +kernel
theorem dX9_acts_105 : decode cX9_acts 105 = .ok (.bipush 60, 2) := by decide +kernel
theorem dX9_acts_107 : decode cX9_acts 107 = .ok (.if_icmp .le 6, 3) := by decide +kernel
theorem dX9_acts_110 : decode cX9_acts 110 = .ok (.bipush (-9), 2) := by decide +kernel
theorem dX9_acts_112 : decode cX9_acts 112 = .ok (.ireturn, 1) := by decide +kernel
theorem dX9_acts_113 : decode cX9_acts 113 = .ok (.aload_n 0, 1) := by decide +kernel
theorem dX9_acts_114 : decode cX9_acts 114 = .ok (.getfield 14, 3) := by decide +kernel
theorem dX9_acts_117 : decode cX9_acts 117 = .ok (.iload_n 3, 1) := by decide +kernel
theorem dX9_acts_118 : decode cX9_acts 118 = .ok (.aaload, 1) := by decide +kernel
theorem dX9_acts_119 : decode cX9_acts 119 = .ok (.iconst 2, 1) := by decide +kernel
theorem dX9_acts_120 : decode cX9_acts 120 = .ok (.iload_n 2, 1) := by decide +kernel
theorem dX9_acts_121 : decode cX9_acts 121 = .ok (.iconst 4, 1) := by decide +kernel
theorem dX9_acts_122 : decode cX9_acts 122 = .ok (.idiv, 1) := by decide +kernel
theorem dX9_acts_123 : decode cX9_acts 123 = .ok (.iconst 3, 1) := by decide +kernel
theorem dX9_acts_124 : decode cX9_acts 124 = .ok (.irem, 1) := by decide +kernel
theorem dX9_acts_125 : decode cX9_acts 125 = .ok (.iastore, 1) := by decide +kernel
theorem dX9_acts_126 : decode cX9_acts 126 = .ok (.aload_n 0, 1) := by decide +kernel
theorem dX9_acts_127 : decode cX9_acts 127 = .ok (.getfield 14, 3) := by decide +kernel
theorem dX9_acts_130 : decode cX9_acts 130 = .ok (.iload_n 3, 1) := by decide +kernel
theorem dX9_acts_131 : decode cX9_acts 131 = .ok (.aaload, 1) := by decide +kernel
theorem dX9_acts_132 : decode cX9_acts 132 = .ok (.iconst 3, 1) := by decide +kernel
theorem dX9_acts_133 : decode cX9_acts 133 = .ok (.aload_n 0, 1) := by decide +kernel
theorem dX9_acts_134 : decode cX9_acts 134 = .ok (.getfield 14, 3) := by decide +kernel
theorem dX9_acts_137 : decode cX9_acts 137 = .ok (.iload_n 3, 1) := by decide +kernel
theorem dX9_acts_138 : decode cX9_acts 138 = .ok (.aaload, 1) := by decide +kernel
theorem dX9_acts_139 : decode cX9_acts 139 = .ok (.iconst 1, 1) := by decide +kernel
theorem dX9_acts_140 : decode cX9_acts 140 = .ok (.iaload, 1) := by decide +kernel
theorem dX9_acts_141 : decode cX9_acts 141 = .ok (.ifCond .le 14, 3) := by decide +kernel
theorem dX9_acts_144 : decode cX9_acts 144 = .ok (.aload_n 0, 1) := by decide +kernel
theorem dX9_acts_145 : decode cX9_acts 145 = .ok (.getfield 14, 3) := by decide +kernel
theorem dX9_acts_148 : decode cX9_acts 148 = .ok (.iload_n 3, 1) := by decide +kernel
theorem dX9_acts_149 : decode cX9_acts 149 = .ok (.aaload, 1) := by decide +kernel
theorem dX9_acts_150 : decode cX9_acts 150 = .ok (.iconst 1, 1) := by decide +kernel
theorem dX9_acts_151 : decode cX9_acts 151 = .ok (.iaload, 1) := by decide +kernel
theorem dX9_acts_152 : decode cX9_acts 152 = .ok (.goto 4, 3) := by decide +kernel
theorem dX9_acts_155 : decode cX9_acts 155 = .ok (.iconst (-1), 1) := by decide +kernel
theorem dX9_acts_156 : decode cX9_acts 156 = .ok (.iastore, 1) := by decide +kernel
theorem dX9_acts_157 : decode cX9_acts 157 = .ok (.aload_n 0, 1) := by decide +kernel
theorem dX9_acts_158 : decode cX9_acts 158 = .ok (.getfield 14, 3) := by decide +kernel
theorem dX9_acts_161 : decode cX9_acts 161 = .ok (.iload_n 3, 1) := by decide +kernel
theorem dX9_acts_162 : decode cX9_acts 162 = .ok (.aaload, 1) := by decide +kernel
theorem dX9_acts_163 : decode cX9_acts 163 = .ok (.iconst 0, 1) := by decide +kernel
theorem dX9_acts_164 : decode cX9_acts 164 = .ok (.iaload, 1) := by decide +kernel
theorem dX9_acts_165 : decode cX9_acts 165 = .ok (.ireturn, 1) := by decide +kernel
theorem dX9_acts_166 : decode cX9_acts 166 = .ok (.aload_n 0, 1) := by decide +kernel
theorem dX9_acts_167 : decode cX9_acts 167 = .ok (.getfield 46, 3) := by decide +kernel
theorem dX9_acts_170 : decode cX9_acts 170 = .ok (.bipush 10, 2) := by decide +kernel
theorem dX9_acts_172 : decode cX9_acts 172 = .ok (.if_icmp .ne 6, 3) := by decide +kernel
theorem dX9_acts_175 : decode cX9_acts 175 = .ok (.bipush (-9), 2) := by decide +kernel
theorem dX9_acts_177 : decode cX9_acts 177 = .ok (.ireturn, 1) := by decide +kernel
theorem dX9_acts_178 : decode cX9_acts 178 = .ok (.aload_n 0, 1) := by decide +kernel
theorem dX9_acts_179 : decode cX9_acts 179 = .ok (.getfield 18, 3) := by decide +kernel
theorem dX9_acts_182 : decode cX9_acts 182 = .ok (.aload_n 0, 1) := by decide +kernel
theorem dX9_acts_183 : decode cX9_acts 183 = .ok (.getfield 46, 3) := by decide +kernel
theorem dX9_acts_186 : decode cX9_acts 186 = .ok (.bipush 6, 2) := by decide +kernel
theorem dX9_acts_188 : decode cX9_acts 188 = .ok (.newarray .int, 2) := by decide +kernel
theorem dX9_acts_190 : decode cX9_acts 190 = .ok (.dup, 1) := by decide +kernel
theorem dX9_acts_191 : decode cX9_acts 191 = .ok (.iconst 0, 1) := by decide +kernel
theorem dX9_acts_192 : decode cX9_acts 192 = .ok (.aload_n 0, 1) := by decide +kernel
theorem dX9_acts_193 : decode cX9_acts 193 = .ok (.getfield 68, 3) := by decide +kernel
theorem dX9_acts_196 : decode cX9_acts 196 = .ok (.iastore, 1) := by decide +kernel
theorem dX9_acts_197 : decode cX9_acts 197 = .ok (.dup, 1) := by decide +kernel
theorem dX9_acts_198 : decode cX9_acts 198 = .ok (.iconst 1, 1) := by decide +kernel
theorem dX9_acts_199 : decode cX9_acts 199 = .ok (.iload_n 3, 1) := by decide +kernel
theorem dX9_acts_200 : decode cX9_acts 200 = .ok (.iastore, 1) := by decide +kernel
theorem dX9_acts_201 : decode cX9_acts 201 = .ok (.dup, 1) := by decide +kernel
theorem dX9_acts_202 : decode cX9_acts 202 = .ok (.iconst 2, 1) := by decide +kernel
theorem dX9_acts_203 : decode cX9_acts 203 = .ok (.iconst 1, 1) := by decide +kernel
theorem dX9_acts_204 : decode cX9_acts 204 = .ok (.iload_n 2, 1) := by decide +kernel
theorem dX9_acts_205 : decode cX9_acts 205 = .ok (.iconst 4, 1) := by decide +kernel
theorem dX9_acts_206 : decode cX9_acts 206 = .ok (.idiv, 1) := by decide +kernel
theorem dX9_acts_207 : decode cX9_acts 207 = .ok (.iconst 5, 1) := by decide +kernel
theorem dX9_acts_208 : decode cX9_acts 208 = .ok (.irem, 1) := by decide +kernel
theorem dX9_acts_209 : decode cX9_acts 209 = .ok (.iadd, 1) := by decide +kernel
theorem dX9_acts_210 : decode cX9_acts 210 = .ok (.iastore, 1) := by decide +kernel
theorem dX9_acts_211 : decode cX9_acts 211 = .ok (.dup, 1) := by decide +kernel
theorem dX9_acts_212 : decode cX9_acts 212 = .ok (.iconst 3, 1) := by decide +kernel
theorem dX9_acts_213 : decode cX9_acts 213 = .ok (.iconst 1, 1) := by decide +kernel
theorem dX9_acts_214 : decode cX9_acts 214 = .ok (.iload_n 2, 1) := by decide +kernel
theorem dX9_acts_215 : decode cX9_acts 215 = .ok (.bipush 32, 2) := by decide +kernel
theorem dX9_acts_217 : decode cX9_acts 217 = .ok (.idiv, 1) := by decide +kernel
theorem dX9_acts_218 : decode cX9_acts 218 = .ok (.bipush 40, 2) := by decide +kernel
theorem dX9_acts_220 : decode cX9_acts 220 = .ok (.irem, 1) := by decide +kernel
theorem dX9_acts_221 : decode cX9_acts 221 = .ok (.iadd, 1) := by decide +kernel
theorem dX9_acts_222 : decode cX9_acts 222 = .ok (.iastore, 1) := by decide +kernel
theorem dX9_acts_223 : decode cX9_acts 223 = .ok (.dup, 1) := by decide +kernel
theorem dX9_acts_224 : decode cX9_acts 224 = .ok (.iconst 4, 1) := by decide +kernel
theorem dX9_acts_225 : decode cX9_acts 225 = .ok (.iload_n 2, 1) := by decide +kernel
theorem dX9_acts_226 : decode cX9_acts 226 = .ok (.sipush 2048, 3) := by decide +kernel
theorem dX9_acts_229 : decode cX9_acts 229 = .ok (.idiv, 1) := by decide +kernel
theorem dX9_acts_230 : decode cX9_acts 230 = .ok (.sipush 200, 3) := by decide +kernel
theorem dX9_acts_233 : decode cX9_acts 233 = .ok (.irem, 1) := by decide +kernel
theorem dX9_acts_234 : decode cX9_acts 234 = .ok (.iastore, 1) := by decide +kernel
theorem dX9_acts_235 : decode cX9_acts 235 = .ok (.dup, 1) := by decide +kernel
theorem dX9_acts_236 : decode cX9_acts 236 = .ok (.iconst 5, 1) := by decide +kernel
theorem dX9_acts_237 : decode cX9_acts 237 = .ok (.iconst 1, 1) := by decide +kernel
theorem dX9_acts_238 : decode cX9_acts 238 = .ok (.iload_n 2, 1) := by decide +kernel
theorem dX9_acts_239 : decode cX9_acts 239 = .ok (.ldc 126, 2) := by decide +kernel
theorem dX9_acts_241 : decode cX9_acts 241 = .ok (.idiv, 1) := by decide +kernel
theorem dX9_acts_242 : decode cX9_acts 242 = .ok (.bipush 20, 2) := by decide +kernel
theorem dX9_acts_244 : decode cX9_acts 244 = .ok (.irem, 1) := by decide +kernel
theorem dX9_acts_245 : decode cX9_acts 245 = .ok (.iadd, 1) := by decide +kernel
theorem dX9_acts_246 : decode cX9_acts 246 = .ok (.iastore, 1) := by decide +kernel
theorem dX9_acts_247 : decode cX9_acts 247 = .ok (.aastore, 1) := by decide +kernel
theorem dX9_acts_248 : decode cX9_acts 248 = .ok (.aload_n 0, 1) := by decide +kernel
theorem dX9_acts_249 : decode cX9_acts 249 = .ok (.dup, 1) := by decide +kernel
theorem dX9_acts_250 : decode cX9_acts 250 = .ok (.getfield 46, 3) := by decide +kernel
theorem dX9_acts_253 : decode cX9_acts 253 = .ok (.iconst 1, 1) := by decide +kernel
theorem dX9_acts_254 : decode cX9_acts 254 = .ok (.iadd, 1) := by decide +kernel
theorem dX9_acts_255 : decode cX9_acts 255 = .ok (.putfield 46, 3) := by decide +kernel
theorem dX9_acts_258 : decode cX9_acts 258 = .ok (.aload_n 0, 1) := by decide +kernel
theorem dX9_acts_259 : decode cX9_acts 259 = .ok (.dup, 1) := by decide +kernel
theorem dX9_acts_260 : decode cX9_acts 260 = .ok (.getfield 68, 3) := by decide +kernel
theorem dX9_acts_263 : decode cX9_acts 263 = .ok (.iconst 1, 1) := by decide +kernel
theorem dX9_acts_264 : decode cX9_acts 264 = .ok (.iadd, 1) := by decide +kernel
theorem dX9_acts_265 : decode cX9_acts 265 = .ok (.putfield 68, 3) := by decide +kernel
theorem dX9_acts_268 : decode cX9_acts 268 = .ok (.aload_n 0, 1) := by decide +kernel
theorem dX9_acts_269 : decode cX9_acts 269 = .ok (.getfield 68, 3) := by decide +kernel
theorem dX9_acts_272 : decode cX9_acts 272 = .ok (.iconst 1, 1) := by decide +kernel
theorem dX9_acts_273 : decode cX9_acts 273 = .ok (.isub, 1) := by decide +kernel
theorem dX9_acts_274 : decode cX9_acts 274 = .ok (.ireturn, 1) := by decide +kernel
theorem dX9_acts_275 : decode cX9_acts 275 = .ok (.aload_n 0, 1) := by decide +kernel
theorem dX9_acts_276 : decode cX9_acts 276 = .ok (.getfield 46, 3) := by decide +kernel
theorem dX9_acts_279 : decode cX9_acts 279 = .ok (.ifCond .ne 6, 3) := by decide +kernel
theorem dX9_acts_282 : decode cX9_acts 282 = .ok (.bipush (-9), 2) := by decide +kernel
theorem dX9_acts_284 : decode cX9_acts 284 = .ok (.ireturn, 1) := by decide +kernel
theorem dX9_acts_285 : decode cX9_acts 285 = .ok (.iload_n 2, 1) := by decide +kernel
theorem dX9_acts_286 : decode cX9_acts 286 = .ok (.aload_n 0, 1) := by decide +kernel
theorem dX9_acts_287 : decode cX9_acts 287 = .ok (.getfield 46, 3) := by decide +kernel
theorem dX9_acts_290 : decode cX9_acts 290 = .ok (.irem, 1) := by decide +kernel
theorem dX9_acts_291 : decode cX9_acts 291 = .ok (.istore 5, 2) := by decide +kernel
theorem dX9_acts_293 : decode cX9_acts 293 = .ok (.aload_n 0, 1) := by decide +kernel
theorem dX9_acts_294 : decode cX9_acts 294 = .ok (.getfield 18, 3) := by decide +kernel
theorem dX9_acts_297 : decode cX9_acts 297 = .ok (.iload 5, 2) := by decide +kernel
theorem dX9_acts_299 : decode cX9_acts 299 = .ok (.aaload, 1) := by decide +kernel
theorem dX9_acts_300 : decode cX9_acts 300 = .ok (.iconst 4, 1) := by decide +kernel
theorem dX9_acts_301 : decode cX9_acts 301 = .ok (.iaload, 1) := by decide +kernel
theorem dX9_acts_302 : decode cX9_acts 302 = .ok (.istore 4, 2) := by decide +kernel
theorem dX9_acts_304 : decode cX9_acts 304 = .ok (.aload_n 0, 1) := by decide +kernel
theorem dX9_acts_305 : decode cX9_acts 305 = .ok (.iload 5, 2) := by decide +kernel
theorem dX9_acts_307 : decode cX9_acts 307 = .ok (.iconst 2, 1) := by decide +kernel
theorem dX9_acts_308 : decode cX9_acts 308 = .ok (.invokevirtual 111, 3) := by decide +kernel
theorem dX9_acts_311 : decode cX9_acts 311 = .ok (.iload 4, 2) := by decide +kernel
theorem dX9_acts_313 : decode cX9_acts 313 = .ok (.ireturn, 1) := by decide +kernel
theorem dX9_acts_314 : decode cX9_acts 314 = .ok (.aload_n 0, 1) := by decide +kernel
theorem dX9_acts_315 : decode cX9_acts 315 = .ok (.getfield 7, 3) := by decide +kernel
theorem dX9_acts_318 : decode cX9_acts 318 = .ok (.iload_n 3, 1) := by decide +kernel
theorem dX9_acts_319 : decode cX9_acts 319 = .ok (.iaload, 1) := by decide +kernel
theorem dX9_acts_320 : decode cX9_acts 320 = .ok (.istore 4, 2) := by decide +kernel
theorem dX9_acts_322 : decode cX9_acts 322 = .ok (.aload_n 0, 1) := by decide +kernel
theorem dX9_acts_323 : decode cX9_acts 323 = .ok (.getfield 7, 3) := by decide +kernel
theorem dX9_acts_326 : decode cX9_acts 326 = .ok (.iload_n 3, 1) := by decide +kernel
theorem dX9_acts_327 : decode cX9_acts 327 = .ok (.iconst 1, 1) := by decide +kernel
theorem dX9_acts_328 : decode cX9_acts 328 = .ok (.iload_n 2, 1) := by decide +kernel
theorem dX9_acts_329 : decode cX9_acts 329 = .ok (.iconst 4, 1) := by decide +kernel
theorem dX9_acts_330 : decode cX9_acts 330 = .ok (.idiv, 1) := by decide +kernel
theorem dX9_acts_331 : decode cX9_acts 331 = .ok (.bipush 40, 2) := by decide +kernel
theorem dX9_acts_333 : decode cX9_acts 333 = .ok (.irem, 1) := by decide +kernel
theorem dX9_acts_334 : decode cX9_acts 334 = .ok (.iadd, 1) := by decide +kernel
theorem dX9_acts_335 : decode cX9_acts 335 = .ok (.iastore, 1) := by decide +kernel
theorem dX9_acts_336 : decode cX9_acts 336 = .ok (.iload 4, 2) := by decide +kernel
theorem dX9_acts_338 : decode cX9_acts 338 = .ok (.ireturn, 1) := by decide +kernel
theorem dX9_acts_339 : decode cX9_acts 339 = .ok (.aload_n 0, 1) := by decide +kernel
theorem dX9_acts_340 : decode cX9_acts 340 = .ok (.dup, 1) := by decide +kernel
theorem dX9_acts_341 : decode cX9_acts 341 = .ok (.getfield 74, 3) := by decide +kernel
theorem dX9_acts_344 : decode cX9_acts 344 = .ok (.iconst 1, 1) := by decide +kernel
theorem dX9_acts_345 : decode cX9_acts 345 = .ok (.iload_n 2, 1) := by decide +kernel
theorem dX9_acts_346 : decode cX9_acts 346 = .ok (.bipush 40, 2) := by decide +kernel
theorem dX9_acts_348 : decode cX9_acts 348 = .ok (.irem, 1) := by decide +kernel
theorem dX9_acts_349 : decode cX9_acts 349 = .ok (.iadd, 1) := by decide +kernel
theorem dX9_acts_350 : decode cX9_acts 350 = .ok (.iadd, 1) := by decide +kernel
theorem dX9_acts_351 : decode cX9_acts 351 = .ok (.putfield 74, 3) := by decide +kernel
theorem dX9_acts_354 : decode cX9_acts 354 = .ok (.aload_n 0, 1) := by decide +kernel
theorem dX9_acts_355 : decode cX9_acts 355 = .ok (.getfield 74, 3) := by decide +kernel
theorem dX9_acts_358 : decode cX9_acts 358 = .ok (.ireturn, 1) := by decide +kernel
theorem dX9_acts_359 : decode cX9_acts 359 = .ok (.aload_n 0, 1) := by decide +kernel
theorem dX9_acts_360 : decode cX9_acts 360 = .ok (.iload_n 3, 1) := by decide +kernel
theorem dX9_acts_361 : decode cX9_acts 361 = .ok (.invokevirtual 127, 3) := by decide +kernel
theorem dX9_acts_364 : decode cX9_acts 364 = .ok (.ireturn, 1) := by decide +kernel
theorem dX9_acts_365 : decode cX9_acts 365 = .ok (.iconst 0, 1) := by decide +kernel
theorem dX9_acts_366 : decode cX9_acts 366 = .ok (.istore 4, 2) := by decide +kernel
theorem dX9_acts_368 : decode cX9_acts 368 = .ok (.iconst 0, 1) := by decide +kernel
theorem dX9_acts_369 : decode cX9_acts 369 = .ok (.istore 5, 2) := by decide +kernel
theorem dX9_acts_371 : decode cX9_acts 371 = .ok (.iload 5, 2) := by decide +kernel
theorem dX9_acts_373 : decode cX9_acts 373 = .ok (.iload_n 3, 1) := by decide +kernel
theorem dX9_acts_374 : decode cX9_acts 374 = .ok (.if_icmp .gt 18, 3) := by decide +kernel
theorem dX9_acts_377 : decode cX9_acts 377 = .ok (.iload 4, 2) := by decide +kernel
theorem dX9_acts_379 : decode cX9_acts 379 = .ok (.aload_n 0, 1) := by decide +kernel
theorem dX9_acts_380 : decode cX9_acts 380 = .ok (.invokevirtual 130, 3) := by decide +kernel
theorem dX9_acts_383 : decode cX9_acts 383 = .ok (.iadd, 1) := by decide +kernel
theorem dX9_acts_384 : decode cX9_acts 384 = .ok (.istore 4, 2) := by decide +kernel
theorem dX9_acts_386 : decode cX9_acts 386 = .ok (.iinc 5 1, 3) := by decide +kernel
theorem dX9_acts_389 : decode cX9_acts 389 = .ok (.goto (-18), 3) := by decide +kernel
theorem dX9_acts_392 : decode cX9_acts 392 = .ok (.iload 4, 2) := by decide +kernel
theorem dX9_acts_394 : decode cX9_acts 394 = .ok (.ireturn, 1) := by decide +kernel
theorem dX9_agrees_0 : decode cX9_agrees 0 = .ok (.aload_n 1, 1) := by decide +kernel
theorem dX9_agrees_1 : decode cX9_agrees 1 = .ok (.invokevirtual 133, 3) := by decide +kernel
theorem dX9_agrees_4 : decode cX9_agrees 4 = .ok (.aload_n 0, 1) := by decide +kernel
theorem dX9_agrees_5 : decode cX9_agrees 5 = .ok (.getfield 81, 3) := by decide +kernel
theorem dX9_agrees_8 : decode cX9_agrees 8 = .ok (.if_icmp .ne 63, 3) := by decide +kernel
theorem dX9_agrees_11 : decode cX9_agrees 11 = .ok (.aload_n 1, 1) := by decide +kernel
theorem dX9_agrees_12 : decode cX9_agrees 12 = .ok (.invokevirtual 135, 3) := by decide +kernel
theorem dX9_agrees_15 : decode cX9_agrees 15 = .ok (.aload_n 0, 1) := by decide +kernel
theorem dX9_agrees_16 : decode cX9_agrees 16 = .ok (.getfield 93, 3) := by decide +kernel
theorem dX9_agrees_19 : decode cX9_agrees 19 = .ok (.if_icmp .ne 52, 3) := by decide +kernel
theorem dX9_agrees_22 : decode cX9_agrees 22 = .ok (.aload_n 1, 1) := by decide +kernel
theorem dX9_agrees_23 : decode cX9_agrees 23 = .ok (.invokevirtual 42, 3) := by decide +kernel
theorem dX9_agrees_26 : decode cX9_agrees 26 = .ok (.aload_n 0, 1) := by decide +kernel
theorem dX9_agrees_27 : decode cX9_agrees 27 = .ok (.getfield 46, 3) := by decide +kernel
theorem dX9_agrees_30 : decode cX9_agrees 30 = .ok (.if_icmp .ne 41, 3) := by decide +kernel
theorem dX9_agrees_33 : decode cX9_agrees 33 = .ok (.aload_n 1, 1) := by decide +kernel
theorem dX9_agrees_34 : decode cX9_agrees 34 = .ok (.invokevirtual 71, 3) := by decide +kernel
theorem dX9_agrees_37 : decode cX9_agrees 37 = .ok (.aload_n 0, 1) := by decide +kernel
theorem dX9_agrees_38 : decode cX9_agrees 38 = .ok (.getfield 74, 3) := by decide +kernel
theorem dX9_agrees_41 : decode cX9_agrees 41 = .ok (.if_icmp .ne 30, 3) := by decide +kernel
theorem dX9_agrees_44 : decode cX9_agrees 44 = .ok (.aload_n 1, 1) := by decide +kernel
theorem dX9_agrees_45 : decode cX9_agrees 45 = .ok (.invokevirtual 76, 3) := by decide +kernel
theorem dX9_agrees_48 : decode cX9_agrees 48 = .ok (.aload_n 0, 1) := by decide +kernel
theorem dX9_agrees_49 : decode cX9_agrees 49 = .ok (.getfield 79, 3) := by decide +kernel
theorem dX9_agrees_52 : decode cX9_agrees 52 = .ok (.if_icmp .ne 19, 3) := by decide +kernel
theorem dX9_agrees_55 : decode cX9_agrees 55 = .ok (.aload_n 1, 1) := by decide +kernel
theorem dX9_agrees_56 : decode cX9_agrees 56 = .ok (.invokevirtual 138, 3) := by decide +kernel
theorem dX9_agrees_59 : decode cX9_agrees 59 = .ok (.bipush 30, 2) := by decide +kernel
theorem dX9_agrees_61 : decode cX9_agrees 61 = .ok (.aload_n 0, 1) := by decide +kernel
theorem dX9_agrees_62 : decode cX9_agrees 62 = .ok (.getfield 90, 3) := by decide +kernel
theorem dX9_agrees_65 : decode cX9_agrees 65 = .ok (.invokestatic 108, 3) := by decide +kernel
theorem dX9_agrees_68 : decode cX9_agrees 68 = .ok (.if_icmp .eq 5, 3) := by decide +kernel
theorem dX9_agrees_71 : decode cX9_agrees 71 = .ok (.iconst 0, 1) := by decide +kernel
theorem dX9_agrees_72 : decode cX9_agrees 72 = .ok (.ireturn, 1) := by decide +kernel
theorem dX9_agrees_73 : decode cX9_agrees 73 = .ok (.iconst 0, 1) := by decide +kernel
theorem dX9_agrees_74 : decode cX9_agrees 74 = .ok (.istore_n 2, 1) := by decide +kernel
theorem dX9_agrees_75 : decode cX9_agrees 75 = .ok (.iload_n 2, 1) := by decide +kernel
theorem dX9_agrees_76 : decode cX9_agrees 76 = .ok (.iconst 3, 1) := by decide +kernel
theorem dX9_agrees_77 : decode cX9_agrees 77 = .ok (.if_icmp .ge 125, 3) := by decide +kernel
theorem dX9_agrees_80 : decode cX9_agrees 80 = .ok (.aload_n 0, 1) := by decide +kernel
theorem dX9_agrees_81 : decode cX9_agrees 81 = .ok (.getfield 14, 3) := by decide +kernel
theorem dX9_agrees_84 : decode cX9_agrees 84 = .ok (.iload_n 2, 1) := by decide +kernel
theorem dX9_agrees_85 : decode cX9_agrees 85 = .ok (.aaload, 1) := by decide +kernel
theorem dX9_agrees_86 : decode cX9_agrees 86 = .ok (.iconst 3, 1) := by decide +kernel
theorem dX9_agrees_87 : decode cX9_agrees 87 = .ok (.iaload, 1) := by decide +kernel
theorem dX9_agrees_88 : decode cX9_agrees 88 = .ok (.ifCond .ge 29, 3) := by decide +kernel
theorem dX9_agrees_91 : decode cX9_agrees 91 = .ok (.aload_n 0, 1) := by decide +kernel
theorem dX9_agrees_92 : decode cX9_agrees 92 = .ok (.getfield 14, 3) := by decide +kernel
theorem dX9_agrees_95 : decode cX9_agrees 95 = .ok (.iload_n 2, 1) := by decide +kernel
theorem dX9_agrees_96 : decode cX9_agrees 96 = .ok (.aaload, 1) := by decide +kernel
theorem dX9_agrees_97 : decode cX9_agrees 97 = .ok (.iconst 1, 1) := by decide +kernel
theorem dX9_agrees_98 : decode cX9_agrees 98 = .ok (.aload_n 1, 1) := by decide +kernel
theorem dX9_agrees_99 : decode cX9_agrees 99 = .ok (.iload_n 2, 1) := by decide +kernel
theorem dX9_agrees_100 : decode cX9_agrees 100 = .ok (.invokevirtual 39, 3) := by decide +kernel
theorem dX9_agrees_103 : decode cX9_agrees 103 = .ok (.iastore, 1) := by decide +kernel
theorem dX9_agrees_104 : decode cX9_agrees 104 = .ok (.aload_n 0, 1) := by decide +kernel
theorem dX9_agrees_105 : decode cX9_agrees 105 = .ok (.getfield 14, 3) := by decide +kernel
theorem dX9_agrees_108 : decode cX9_agrees 108 = .ok (.iload_n 2, 1) := by decide +kernel
theorem dX9_agrees_109 : decode cX9_agrees 109 = .ok (.aaload, 1) := by decide +kernel
theorem dX9_agrees_110 : decode cX9_agrees 110 = .ok (.iconst 3, 1) := by decide +kernel
theorem dX9_agrees_111 : decode cX9_agrees 111 = .ok (.aload_n 1, 1) := by decide +kernel
theorem dX9_agrees_112 : decode cX9_agrees 112 = .ok (.iload_n 2, 1) := by decide +kernel
theorem dX9_agrees_113 : decode cX9_agrees 113 = .ok (.invokevirtual 39, 3) := by decide +kernel
theorem dX9_agrees_116 : decode cX9_agrees 116 = .ok (.iastore, 1) := by decide +kernel
theorem dX9_agrees_117 : decode cX9_agrees 117 = .ok (.aload_n 1, 1) := by decide +kernel
theorem dX9_agrees_118 : decode cX9_agrees 118 = .ok (.iload_n 2, 1) := by decide +kernel
theorem dX9_agrees_119 : decode cX9_agrees 119 = .ok (.invokevirtual 141, 3) := by decide +kernel
theorem dX9_agrees_122 : decode cX9_agrees 122 = .ok (.aload_n 0, 1) := by decide +kernel
theorem dX9_agrees_123 : decode cX9_agrees 123 = .ok (.getfield 14, 3) := by decide +kernel
theorem dX9_agrees_126 : decode cX9_agrees 126 = .ok (.iload_n 2, 1) := by decide +kernel
theorem dX9_agrees_127 : decode cX9_agrees 127 = .ok (.aaload, 1) := by decide +kernel
theorem dX9_agrees_128 : decode cX9_agrees 128 = .ok (.iconst 4, 1) := by decide +kernel
theorem dX9_agrees_129 : decode cX9_agrees 129 = .ok (.iaload, 1) := by decide +kernel
theorem dX9_agrees_130 : decode cX9_agrees 130 = .ok (.if_icmp .ne 64, 3) := by decide +kernel
theorem dX9_agrees_133 : decode cX9_agrees 133 = .ok (.aload_n 1, 1) := by decide +kernel
theorem dX9_agrees_134 : decode cX9_agrees 134 = .ok (.iload_n 2, 1) := by decide +kernel
theorem dX9_agrees_135 : decode cX9_agrees 135 = .ok (.invokevirtual 39, 3) := by decide +kernel
theorem dX9_agrees_138 : decode cX9_agrees 138 = .ok (.aload_n 0, 1) := by decide +kernel
theorem dX9_agrees_139 : decode cX9_agrees 139 = .ok (.getfield 14, 3) := by decide +kernel
theorem dX9_agrees_142 : decode cX9_agrees 142 = .ok (.iload_n 2, 1) := by decide +kernel
theorem dX9_agrees_143 : decode cX9_agrees 143 = .ok (.aaload, 1) := by decide +kernel
theorem dX9_agrees_144 : decode cX9_agrees 144 = .ok (.iconst 3, 1) := by decide +kernel
theorem dX9_agrees_145 : decode cX9_agrees 145 = .ok (.iaload, 1) := by decide +kernel
theorem dX9_agrees_146 : decode cX9_agrees 146 = .ok (.if_icmp .ne 48, 3) := by decide +kernel
theorem dX9_agrees_149 : decode cX9_agrees 149 = .ok (.aload_n 1, 1) := by decide +kernel
theorem dX9_agrees_150 : decode cX9_agrees 150 = .ok (.iload_n 2, 1) := by decide +kernel
theorem dX9_agrees_151 : decode cX9_agrees 151 = .ok (.invokevirtual 36, 3) := by decide +kernel
theorem dX9_agrees_154 : decode cX9_agrees 154 = .ok (.aload_n 0, 1) := by decide +kernel
theorem dX9_agrees_155 : decode cX9_agrees 155 = .ok (.getfield 14, 3) := by decide +kernel
theorem dX9_agrees_158 : decode cX9_agrees 158 = .ok (.iload_n 2, 1) := by decide +kernel
theorem dX9_agrees_159 : decode cX9_agrees 159 = .ok (.aaload, 1) := by decide +kernel
theorem dX9_agrees_160 : decode cX9_agrees 160 = .ok (.iconst 3, 1) := by decide +kernel
theorem dX9_agrees_161 : decode cX9_agrees 161 = .ok (.iaload, 1) := by decide +kernel
theorem dX9_agrees_162 : decode cX9_agrees 162 = .ok (.ifCond .le 14, 3) := by decide +kernel
theorem dX9_agrees_165 : decode cX9_agrees 165 = .ok (.aload_n 0, 1) := by decide +kernel
theorem dX9_agrees_166 : decode cX9_agrees 166 = .ok (.getfield 14, 3) := by decide +kernel
theorem dX9_agrees_169 : decode cX9_agrees 169 = .ok (.iload_n 2, 1) := by decide +kernel
theorem dX9_agrees_170 : decode cX9_agrees 170 = .ok (.aaload, 1) := by decide +kernel
theorem dX9_agrees_171 : decode cX9_agrees 171 = .ok (.iconst 2, 1) := by decide +kernel
theorem dX9_agrees_172 : decode cX9_agrees 172 = .ok (.iaload, 1) := by decide +kernel
theorem dX9_agrees_173 : decode cX9_agrees 173 = .ok (.goto 4, 3) := by decide +kernel
theorem dX9_agrees_176 : decode cX9_agrees 176 = .ok (.iconst (-1), 1) := by decide +kernel
theorem dX9_agrees_177 : decode cX9_agrees 177 = .ok (.if_icmp .ne 17, 3) := by decide +kernel
theorem dX9_agrees_180 : decode cX9_agrees 180 = .ok (.aload_n 1, 1) := by decide +kernel
theorem dX9_agrees_181 : decode cX9_agrees 181 = .ok (.iload_n 2, 1) := by decide +kernel
theorem dX9_agrees_182 : decode cX9_agrees 182 = .ok (.invokevirtual 27, 3) := by decide +kernel
theorem dX9_agrees_185 : decode cX9_agrees 185 = .ok (.aload_n 0, 1) := by decide +kernel
theorem dX9_agrees_186 : decode cX9_agrees 186 = .ok (.getfield 7, 3) := by decide +kernel
theorem dX9_agrees_189 : decode cX9_agrees 189 = .ok (.iload_n 2, 1) := by decide +kernel
theorem dX9_agrees_190 : decode cX9_agrees 190 = .ok (.iaload, 1) := by decide +kernel
theorem dX9_agrees_191 : decode cX9_agrees 191 = .ok (.if_icmp .eq 5, 3) := by decide +kernel
theorem dX9_agrees_194 : decode cX9_agrees 194 = .ok (.iconst 0, 1) := by decide +kernel
theorem dX9_agrees_195 : decode cX9_agrees 195 = .ok (.ireturn, 1) := by decide +kernel
theorem dX9_agrees_196 : decode cX9_agrees 196 = .ok (.iinc 2 1, 3) := by decide +kernel
theorem dX9_agrees_199 : decode cX9_agrees 199 = .ok (.goto (-124), 3) := by decide +kernel
theorem dX9_agrees_202 : decode cX9_agrees 202 = .ok (.iconst 0, 1) := by decide +kernel
theorem dX9_agrees_203 : decode cX9_agrees 203 = .ok (.istore_n 2, 1) := by decide +kernel
theorem dX9_agrees_204 : decode cX9_agrees 204 = .ok (.iload_n 2, 1) := by decide +kernel
theorem dX9_agrees_205 : decode cX9_agrees 205 = .ok (.aload_n 0, 1) := by decide +kernel
theorem dX9_agrees_206 : decode cX9_agrees 206 = .ok (.getfield 93, 3) := by decide +kernel
theorem dX9_agrees_209 : decode cX9_agrees 209 = .ok (.if_icmp .ge 82, 3) := by decide +kernel
theorem dX9_agrees_212 : decode cX9_agrees 212 = .ok (.aload_n 1, 1) := by decide +kernel
theorem dX9_agrees_213 : decode cX9_agrees 213 = .ok (.iload_n 2, 1) := by decide +kernel
theorem dX9_agrees_214 : decode cX9_agrees 214 = .ok (.invokevirtual 144, 3) := by decide +kernel
theorem dX9_agrees_217 : decode cX9_agrees 217 = .ok (.aload_n 0, 1) := by decide +kernel
theorem dX9_agrees_218 : decode cX9_agrees 218 = .ok (.getfield 21, 3) := by decide +kernel
theorem dX9_agrees_221 : decode cX9_agrees 221 = .ok (.iload_n 2, 1) := by decide +kernel
theorem dX9_agrees_222 : decode cX9_agrees 222 = .ok (.aaload, 1) := by decide +kernel
theorem dX9_agrees_223 : decode cX9_agrees 223 = .ok (.iconst 0, 1) := by decide +kernel
theorem dX9_agrees_224 : decode cX9_agrees 224 = .ok (.iaload, 1) := by decide +kernel
theorem dX9_agrees_225 : decode cX9_agrees 225 = .ok (.if_icmp .ne 58, 3) := by decide +kernel
theorem dX9_agrees_228 : decode cX9_agrees 228 = .ok (.aload_n 1, 1) := by decide +kernel
theorem dX9_agrees_229 : decode cX9_agrees 229 = .ok (.iload_n 2, 1) := by decide +kernel
theorem dX9_agrees_230 : decode cX9_agrees 230 = .ok (.invokevirtual 147, 3) := by decide +kernel
theorem dX9_agrees_233 : decode cX9_agrees 233 = .ok (.aload_n 0, 1) := by decide +kernel
theorem dX9_agrees_234 : decode cX9_agrees 234 = .ok (.getfield 21, 3) := by decide +kernel
theorem dX9_agrees_237 : decode cX9_agrees 237 = .ok (.iload_n 2, 1) := by decide +kernel
theorem dX9_agrees_238 : decode cX9_agrees 238 = .ok (.aaload, 1) := by decide +kernel
theorem dX9_agrees_239 : decode cX9_agrees 239 = .ok (.iconst 1, 1) := by decide +kernel
theorem dX9_agrees_240 : decode cX9_agrees 240 = .ok (.iaload, 1) := by decide +kernel
theorem dX9_agrees_241 : decode cX9_agrees 241 = .ok (.if_icmp .ne 42, 3) := by decide +kernel
theorem dX9_agrees_244 : decode cX9_agrees 244 = .ok (.aload_n 1, 1) := by decide +kernel
theorem dX9_agrees_245 : decode cX9_agrees 245 = .ok (.iload_n 2, 1) := by decide +kernel
theorem dX9_agrees_246 : decode cX9_agrees 246 = .ok (.invokevirtual 150, 3) := by decide +kernel
theorem dX9_agrees_249 : decode cX9_agrees 249 = .ok (.aload_n 0, 1) := by decide +kernel
theorem dX9_agrees_250 : decode cX9_agrees 250 = .ok (.getfield 81, 3) := by decide +kernel
theorem dX9_agrees_253 : decode cX9_agrees 253 = .ok (.aload_n 0, 1) := by decide +kernel
theorem dX9_agrees_254 : decode cX9_agrees 254 = .ok (.getfield 21, 3) := by decide +kernel
theorem dX9_agrees_257 : decode cX9_agrees 257 = .ok (.iload_n 2, 1) := by decide +kernel
theorem dX9_agrees_258 : decode cX9_agrees 258 = .ok (.aaload, 1) := by decide +kernel
theorem dX9_agrees_259 : decode cX9_agrees 259 = .ok (.iconst 2, 1) := by decide +kernel
theorem dX9_agrees_260 : decode cX9_agrees 260 = .ok (.iaload, 1) := by decide +kernel
theorem dX9_agrees_261 : decode cX9_agrees 261 = .ok (.isub, 1) := by decide +kernel
theorem dX9_agrees_262 : decode cX9_agrees 262 = .ok (.if_icmp .ne 21, 3) := by decide +kernel
theorem dX9_agrees_265 : decode cX9_agrees 265 = .ok (.aload_n 1, 1) := by decide +kernel
theorem dX9_agrees_266 : decode cX9_agrees 266 = .ok (.iload_n 2, 1) := by decide +kernel
theorem dX9_agrees_267 : decode cX9_agrees 267 = .ok (.invokevirtual 153, 3) := by decide +kernel
theorem dX9_agrees_270 : decode cX9_agrees 270 = .ok (.aload_n 0, 1) := by decide +kernel
theorem dX9_agrees_271 : decode cX9_agrees 271 = .ok (.aload_n 0, 1) := by decide +kernel
theorem dX9_agrees_272 : decode cX9_agrees 272 = .ok (.getfield 21, 3) := by decide +kernel
theorem dX9_agrees_275 : decode cX9_agrees 275 = .ok (.iload_n 2, 1) := by decide +kernel
theorem dX9_agrees_276 : decode cX9_agrees 276 = .ok (.aaload, 1) := by decide +kernel
theorem dX9_agrees_277 : decode cX9_agrees 277 = .ok (.invokevirtual 100, 3) := by decide +kernel
theorem dX9_agrees_280 : decode cX9_agrees 280 = .ok (.if_icmp .eq 5, 3) := by decide +kernel
theorem dX9_agrees_283 : decode cX9_agrees 283 = .ok (.iconst 0, 1) := by decide +kernel
theorem dX9_agrees_284 : decode cX9_agrees 284 = .ok (.ireturn, 1) := by decide +kernel
theorem dX9_agrees_285 : decode cX9_agrees 285 = .ok (.iinc 2 1, 3) := by decide +kernel
theorem dX9_agrees_288 : decode cX9_agrees 288 = .ok (.goto (-84), 3) := by decide +kernel
theorem dX9_agrees_291 : decode cX9_agrees 291 = .ok (.iconst 0, 1) := by decide +kernel
theorem dX9_agrees_292 : decode cX9_agrees 292 = .ok (.istore_n 2, 1) := by decide +kernel
theorem dX9_agrees_293 : decode cX9_agrees 293 = .ok (.iload_n 2, 1) := by decide +kernel
theorem dX9_agrees_294 : decode cX9_agrees 294 = .ok (.aload_n 0, 1) := by decide +kernel
theorem dX9_agrees_295 : decode cX9_agrees 295 = .ok (.getfield 46, 3) := by decide +kernel
theorem dX9_agrees_298 : decode cX9_agrees 298 = .ok (.if_icmp .ge 91, 3) := by decide +kernel
theorem dX9_agrees_301 : decode cX9_agrees 301 = .ok (.aload_n 1, 1) := by decide +kernel
theorem dX9_agrees_302 : decode cX9_agrees 302 = .ok (.iload_n 2, 1) := by decide +kernel
theorem dX9_agrees_303 : decode cX9_agrees 303 = .ok (.invokevirtual 50, 3) := by decide +kernel
theorem dX9_agrees_306 : decode cX9_agrees 306 = .ok (.aload_n 0, 1) := by decide +kernel
theorem dX9_agrees_307 : decode cX9_agrees 307 = .ok (.getfield 18, 3) := by decide +kernel
theorem dX9_agrees_310 : decode cX9_agrees 310 = .ok (.iload_n 2, 1) := by decide +kernel
theorem dX9_agrees_311 : decode cX9_agrees 311 = .ok (.aaload, 1) := by decide +kernel
theorem dX9_agrees_312 : decode cX9_agrees 312 = .ok (.iconst 0, 1) := by decide +kernel
theorem dX9_agrees_313 : decode cX9_agrees 313 = .ok (.iaload, 1) := by decide +kernel
theorem dX9_agrees_314 : decode cX9_agrees 314 = .ok (.if_icmp .ne 67, 3) := by decide +kernel
theorem dX9_agrees_317 : decode cX9_agrees 317 = .ok (.aload_n 1, 1) := by decide +kernel
theorem dX9_agrees_318 : decode cX9_agrees 318 = .ok (.iload_n 2, 1) := by decide +kernel
theorem dX9_agrees_319 : decode cX9_agrees 319 = .ok (.invokevirtual 56, 3) := by decide +kernel
theorem dX9_agrees_322 : decode cX9_agrees 322 = .ok (.aload_n 0, 1) := by decide +kernel
theorem dX9_agrees_323 : decode cX9_agrees 323 = .ok (.getfield 18, 3) := by decide +kernel
theorem dX9_agrees_326 : decode cX9_agrees 326 = .ok (.iload_n 2, 1) := by decide +kernel
theorem dX9_agrees_327 : decode cX9_agrees 327 = .ok (.aaload, 1) := by decide +kernel
theorem dX9_agrees_328 : decode cX9_agrees 328 = .ok (.iconst 2, 1) := by decide +kernel
theorem dX9_agrees_329 : decode cX9_agrees 329 = .ok (.iaload, 1) := by decide +kernel
theorem dX9_agrees_330 : decode cX9_agrees 330 = .ok (.if_icmp .ne 51, 3) := by decide +kernel
theorem dX9_agrees_333 : decode cX9_agrees 333 = .ok (.aload_n 1, 1) := by decide +kernel
theorem dX9_agrees_334 : decode cX9_agrees 334 = .ok (.iload_n 2, 1) := by decide +kernel
theorem dX9_agrees_335 : decode cX9_agrees 335 = .ok (.invokevirtual 62, 3) := by decide +kernel
theorem dX9_agrees_338 : decode cX9_agrees 338 = .ok (.aload_n 0, 1) := by decide +kernel
theorem dX9_agrees_339 : decode cX9_agrees 339 = .ok (.getfield 18, 3) := by decide +kernel
theorem dX9_agrees_342 : decode cX9_agrees 342 = .ok (.iload_n 2, 1) := by decide +kernel
theorem dX9_agrees_343 : decode cX9_agrees 343 = .ok (.aaload, 1) := by decide +kernel
theorem dX9_agrees_344 : decode cX9_agrees 344 = .ok (.iconst 4, 1) := by decide +kernel
theorem dX9_agrees_345 : decode cX9_agrees 345 = .ok (.iaload, 1) := by decide +kernel
theorem dX9_agrees_346 : decode cX9_agrees 346 = .ok (.if_icmp .ne 35, 3) := by decide +kernel
theorem dX9_agrees_349 : decode cX9_agrees 349 = .ok (.aload_n 1, 1) := by decide +kernel
theorem dX9_agrees_350 : decode cX9_agrees 350 = .ok (.iload_n 2, 1) := by decide +kernel
theorem dX9_agrees_351 : decode cX9_agrees 351 = .ok (.invokevirtual 65, 3) := by decide +kernel
theorem dX9_agrees_354 : decode cX9_agrees 354 = .ok (.aload_n 0, 1) := by decide +kernel
theorem dX9_agrees_355 : decode cX9_agrees 355 = .ok (.getfield 18, 3) := by decide +kernel
theorem dX9_agrees_358 : decode cX9_agrees 358 = .ok (.iload_n 2, 1) := by decide +kernel
theorem dX9_agrees_359 : decode cX9_agrees 359 = .ok (.aaload, 1) := by decide +kernel
theorem dX9_agrees_360 : decode cX9_agrees 360 = .ok (.iconst 5, 1) := by decide +kernel
theorem dX9_agrees_361 : decode cX9_agrees 361 = .ok (.iaload, 1) := by decide +kernel
theorem dX9_agrees_362 : decode cX9_agrees 362 = .ok (.if_icmp .ne 19, 3) := by decide +kernel
theorem dX9_agrees_365 : decode cX9_agrees 365 = .ok (.aload_n 1, 1) := by decide +kernel
theorem dX9_agrees_366 : decode cX9_agrees 366 = .ok (.aload_n 0, 1) := by decide +kernel
theorem dX9_agrees_367 : decode cX9_agrees 367 = .ok (.getfield 18, 3) := by decide +kernel
theorem dX9_agrees_370 : decode cX9_agrees 370 = .ok (.iload_n 2, 1) := by decide +kernel
theorem dX9_agrees_371 : decode cX9_agrees 371 = .ok (.aaload, 1) := by decide +kernel
theorem dX9_agrees_372 : decode cX9_agrees 372 = .ok (.iconst 0, 1) := by decide +kernel
theorem dX9_agrees_373 : decode cX9_agrees 373 = .ok (.iaload, 1) := by decide +kernel
theorem dX9_agrees_374 : decode cX9_agrees 374 = .ok (.invokevirtual 156, 3) := by decide +kernel
theorem dX9_agrees_377 : decode cX9_agrees 377 = .ok (.iload_n 2, 1) := by decide +kernel
theorem dX9_agrees_378 : decode cX9_agrees 378 = .ok (.if_icmp .eq 5, 3) := by decide +kernel
theorem dX9_agrees_381 : decode cX9_agrees 381 = .ok (.iconst 0, 1) := by decide +kernel
theorem dX9_agrees_382 : decode cX9_agrees 382 = .ok (.ireturn, 1) := by decide +kernel
theorem dX9_agrees_383 : decode cX9_agrees 383 = .ok (.iinc 2 1, 3) := by decide +kernel
theorem dX9_agrees_386 : decode cX9_agrees 386 = .ok (.goto (-93), 3) := by decide +kernel
theorem dX9_agrees_389 : decode cX9_agrees 389 = .ok (.iconst 0, 1) := by decide +kernel
theorem dX9_agrees_390 : decode cX9_agrees 390 = .ok (.aload_n 0, 1) := by decide +kernel
theorem dX9_agrees_391 : decode cX9_agrees 391 = .ok (.getfield 90, 3) := by decide +kernel
theorem dX9_agrees_394 : decode cX9_agrees 394 = .ok (.bipush 30, 2) := by decide +kernel
theorem dX9_agrees_396 : decode cX9_agrees 396 = .ok (.isub, 1) := by decide +kernel
theorem dX9_agrees_397 : decode cX9_agrees 397 = .ok (.invokestatic 84, 3) := by decide +kernel
theorem dX9_agrees_400 : decode cX9_agrees 400 = .ok (.istore_n 2, 1) := by decide +kernel
theorem dX9_agrees_401 : decode cX9_agrees 401 = .ok (.iload_n 2, 1) := by decide +kernel
theorem dX9_agrees_402 : decode cX9_agrees 402 = .ok (.istore_n 3, 1) := by decide +kernel
theorem dX9_agrees_403 : decode cX9_agrees 403 = .ok (.iload_n 3, 1) := by decide +kernel
theorem dX9_agrees_404 : decode cX9_agrees 404 = .ok (.aload_n 0, 1) := by decide +kernel
theorem dX9_agrees_405 : decode cX9_agrees 405 = .ok (.getfield 90, 3) := by decide +kernel
theorem dX9_agrees_408 : decode cX9_agrees 408 = .ok (.if_icmp .ge 65, 3) := by decide +kernel
theorem dX9_agrees_411 : decode cX9_agrees 411 = .ok (.aload_n 1, 1) := by decide +kernel
theorem dX9_agrees_412 : decode cX9_agrees 412 = .ok (.iload_n 3, 1) := by decide +kernel
theorem dX9_agrees_413 : decode cX9_agrees 413 = .ok (.iload_n 2, 1) := by decide +kernel
theorem dX9_agrees_414 : decode cX9_agrees 414 = .ok (.isub, 1) := by decide +kernel
theorem dX9_agrees_415 : decode cX9_agrees 415 = .ok (.invokevirtual 159, 3) := by decide +kernel
theorem dX9_agrees_418 : decode cX9_agrees 418 = .ok (.aload_n 0, 1) := by decide +kernel
theorem dX9_agrees_419 : decode cX9_agrees 419 = .ok (.getfield 24, 3) := by decide +kernel
theorem dX9_agrees_422 : decode cX9_agrees 422 = .ok (.iload_n 3, 1) := by decide +kernel
theorem dX9_agrees_423 : decode cX9_agrees 423 = .ok (.aaload, 1) := by decide +kernel
theorem dX9_agrees_424 : decode cX9_agrees 424 = .ok (.iconst 0, 1) := by decide +kernel
theorem dX9_agrees_425 : decode cX9_agrees 425 = .ok (.iaload, 1) := by decide +kernel
theorem dX9_agrees_426 : decode cX9_agrees 426 = .ok (.if_icmp .ne 39, 3) := by decide +kernel
theorem dX9_agrees_429 : decode cX9_agrees 429 = .ok (.aload_n 1, 1) := by decide +kernel
theorem dX9_agrees_430 : decode cX9_agrees 430 = .ok (.iload_n 3, 1) := by decide +kernel
theorem dX9_agrees_431 : decode cX9_agrees 431 = .ok (.iload_n 2, 1) := by decide +kernel
theorem dX9_agrees_432 : decode cX9_agrees 432 = .ok (.isub, 1) := by decide +kernel
theorem dX9_agrees_433 : decode cX9_agrees 433 = .ok (.invokevirtual 162, 3) := by decide +kernel
theorem dX9_agrees_436 : decode cX9_agrees 436 = .ok (.aload_n 0, 1) := by decide +kernel
theorem dX9_agrees_437 : decode cX9_agrees 437 = .ok (.getfield 24, 3) := by decide +kernel
theorem dX9_agrees_440 : decode cX9_agrees 440 = .ok (.iload_n 3, 1) := by decide +kernel
theorem dX9_agrees_441 : decode cX9_agrees 441 = .ok (.aaload, 1) := by decide +kernel
theorem dX9_agrees_442 : decode cX9_agrees 442 = .ok (.iconst 1, 1) := by decide +kernel
theorem dX9_agrees_443 : decode cX9_agrees 443 = .ok (.iaload, 1) := by decide +kernel
theorem dX9_agrees_444 : decode cX9_agrees 444 = .ok (.if_icmp .ne 21, 3) := by decide +kernel
theorem dX9_agrees_447 : decode cX9_agrees 447 = .ok (.aload_n 1, 1) := by decide +kernel
theorem dX9_agrees_448 : decode cX9_agrees 448 = .ok (.iload_n 3, 1) := by decide +kernel
theorem dX9_agrees_449 : decode cX9_agrees 449 = .ok (.iload_n 2, 1) := by decide +kernel
theorem dX9_agrees_450 : decode cX9_agrees 450 = .ok (.isub, 1) := by decide +kernel
theorem dX9_agrees_451 : decode cX9_agrees 451 = .ok (.invokevirtual 165, 3) := by decide +kernel
theorem dX9_agrees_454 : decode cX9_agrees 454 = .ok (.aload_n 0, 1) := by decide +kernel
theorem dX9_agrees_455 : decode cX9_agrees 455 = .ok (.getfield 24, 3) := by decide +kernel
theorem dX9_agrees_458 : decode cX9_agrees 458 = .ok (.iload_n 3, 1) := by decide +kernel
theorem dX9_agrees_459 : decode cX9_agrees 459 = .ok (.aaload, 1) := by decide +kernel
theorem dX9_agrees_460 : decode cX9_agrees 460 = .ok (.iconst 2, 1) := by decide +kernel
theorem dX9_agrees_461 : decode cX9_agrees 461 = .ok (.iaload, 1) := by decide +kernel
theorem dX9_agrees_462 : decode cX9_agrees 462 = .ok (.if_icmp .eq 5, 3) := by decide +kernel
theorem dX9_agrees_465 : decode cX9_agrees 465 = .ok (.iconst 0, 1) := by decide +kernel
theorem dX9_agrees_466 : decode cX9_agrees 466 = .ok (.ireturn, 1) := by decide +kernel
theorem dX9_agrees_467 : decode cX9_agrees 467 = .ok (.iinc 3 1, 3) := by decide +kernel
theorem dX9_agrees_470 : decode cX9_agrees 470 = .ok (.goto (-67), 3) := by decide +kernel
theorem dX9_agrees_473 : decode cX9_agrees 473 = .ok (.iconst 1, 1) := by decide +kernel
theorem dX9_agrees_474 : decode cX9_agrees 474 = .ok (.ireturn, 1) := by decide +kernel
theorem dL_cell_0 : decode cL_cell 0 = .ok (.iload_n 1, 1) := by decide +kernel
theorem dL_cell_1 : decode cL_cell 1 = .ok (.aload_n 0, 1) := by decide +kernel
theorem dL_cell_2 : decode cL_cell 2 = .ok (.arraylength, 1) := by decide +kernel
theorem dL_cell_3 : decode cL_cell 3 = .ok (.if_icmp .ge 12, 3) := by decide +kernel
theorem dL_cell_6 : decode cL_cell 6 = .ok (.aload_n 0, 1) := by decide +kernel
theorem dL_cell_7 : decode cL_cell 7 = .ok (.iload_n 1, 1) := by decide +kernel
theorem dL_cell_8 : decode cL_cell 8 = .ok (.iaload, 1) := by decide +kernel
theorem dL_cell_9 : decode cL_cell 9 = .ok (.ldc 7, 2) := by decide +kernel
theorem dL_cell_11 : decode cL_cell 11 = .ok (.iand, 1) := by decide +kernel
theorem dL_cell_12 : decode cL_cell 12 = .ok (.goto 4, 3) := by decide +kernel
theorem dL_cell_15 : decode cL_cell 15 = .ok (.iconst 0, 1) := by decide +kernel
theorem dL_cell_16 : decode cL_cell 16 = .ok (.ireturn, 1) := by decide +kernel
theorem dL_says_0 : decode cL_says 0 = .ok (.iconst 0, 1) := by decide +kernel
theorem dL_says_1 : decode cL_says 1 = .ok (.istore_n 2, 1) := by decide +kernel
theorem dL_says_2 : decode cL_says 2 = .ok (.iload_n 2, 1) := by decide +kernel
theorem dL_says_3 : decode cL_says 3 = .ok (.aload_n 1, 1) := by decide +kernel
theorem dL_says_4 : decode cL_says 4 = .ok (.invokevirtual 8, 3) := by decide +kernel
theorem dL_says_7 : decode cL_says 7 = .ok (.if_icmp .ge 89, 3) := by decide +kernel
theorem dL_says_10 : decode cL_says 10 = .ok (.iconst 5, 1) := by decide +kernel
theorem dL_says_11 : decode cL_says 11 = .ok (.newarray .int, 2) := by decide +kernel
theorem dL_says_13 : decode cL_says 13 = .ok (.astore_n 3, 1) := by decide +kernel
theorem dL_says_14 : decode cL_says 14 = .ok (.iconst 0, 1) := by decide +kernel
theorem dL_says_15 : decode cL_says 15 = .ok (.istore 4, 2) := by decide +kernel
theorem dL_says_17 : decode cL_says 17 = .ok (.iload 4, 2) := by decide +kernel
theorem dL_says_19 : decode cL_says 19 = .ok (.bipush 20, 2) := by decide +kernel
theorem dL_says_21 : decode cL_says 21 = .ok (.if_icmp .ge 49, 3) := by decide +kernel
theorem dL_says_24 : decode cL_says 24 = .ok (.aload_n 3, 1) := by decide +kernel
theorem dL_says_25 : decode cL_says 25 = .ok (.iload 4, 2) := by decide +kernel
theorem dL_says_27 : decode cL_says 27 = .ok (.iconst 4, 1) := by decide +kernel
theorem dL_says_28 : decode cL_says 28 = .ok (.idiv, 1) := by decide +kernel
theorem dL_says_29 : decode cL_says 29 = .ok (.aload_n 3, 1) := by decide +kernel
theorem dL_says_30 : decode cL_says 30 = .ok (.iload 4, 2) := by decide +kernel
theorem dL_says_32 : decode cL_says 32 = .ok (.iconst 4, 1) := by decide +kernel
theorem dL_says_33 : decode cL_says 33 = .ok (.idiv, 1) := by decide +kernel
theorem dL_says_34 : decode cL_says 34 = .ok (.iaload, 1) := by decide +kernel
theorem dL_says_35 : decode cL_says 35 = .ok (.bipush 8, 2) := by decide +kernel
theorem dL_says_37 : decode cL_says 37 = .ok (.ishl, 1) := by decide +kernel
theorem dL_says_38 : decode cL_says 38 = .ok (.iload_n 2, 1) := by decide +kernel
theorem dL_says_39 : decode cL_says 39 = .ok (.iload 4, 2) := by decide +kernel
theorem dL_says_41 : decode cL_says 41 = .ok (.iadd, 1) := by decide +kernel
theorem dL_says_42 : decode cL_says 42 = .ok (.aload_n 1, 1) := by decide +kernel
theorem dL_says_43 : decode cL_says 43 = .ok (.invokevirtual 8, 3) := by decide +kernel
theorem dL_says_46 : decode cL_says 46 = .ok (.if_icmp .ge 14, 3) := by decide +kernel
theorem dL_says_49 : decode cL_says 49 = .ok (.aload_n 1, 1) := by decide +kernel
theorem dL_says_50 : decode cL_says 50 = .ok (.iload_n 2, 1) := by decide +kernel
theorem dL_says_51 : decode cL_says 51 = .ok (.iload 4, 2) := by decide +kernel
theorem dL_says_53 : decode cL_says 53 = .ok (.iadd, 1) := by decide +kernel
theorem dL_says_54 : decode cL_says 54 = .ok (.invokevirtual 14, 3) := by decide +kernel
theorem dL_says_57 : decode cL_says 57 = .ok (.goto 5, 3) := by decide +kernel
theorem dL_says_60 : decode cL_says 60 = .ok (.bipush 32, 2) := by decide +kernel
theorem dL_says_62 : decode cL_says 62 = .ok (.ior, 1) := by decide +kernel
theorem dL_says_63 : decode cL_says 63 = .ok (.iastore, 1) := by decide +kernel
theorem dL_says_64 : decode cL_says 64 = .ok (.iinc 4 1, 3) := by decide +kernel
theorem dL_says_67 : decode cL_says 67 = .ok (.goto (-50), 3) := by decide +kernel
theorem dL_says_70 : decode cL_says 70 = .ok (.aload_n 0, 1) := by decide +kernel
theorem dL_says_71 : decode cL_says 71 = .ok (.aload_n 3, 1) := by decide +kernel
theorem dL_says_72 : decode cL_says 72 = .ok (.iconst 0, 1) := by decide +kernel
theorem dL_says_73 : decode cL_says 73 = .ok (.iaload, 1) := by decide +kernel
theorem dL_says_74 : decode cL_says 74 = .ok (.aload_n 3, 1) := by decide +kernel
theorem dL_says_75 : decode cL_says 75 = .ok (.iconst 1, 1) := by decide +kernel
theorem dL_says_76 : decode cL_says 76 = .ok (.iaload, 1) := by decide +kernel
theorem dL_says_77 : decode cL_says 77 = .ok (.aload_n 3, 1) := by decide +kernel
theorem dL_says_78 : decode cL_says 78 = .ok (.iconst 2, 1) := by decide +kernel
theorem dL_says_79 : decode cL_says 79 = .ok (.iaload, 1) := by decide +kernel
theorem dL_says_80 : decode cL_says 80 = .ok (.aload_n 3, 1) := by decide +kernel
theorem dL_says_81 : decode cL_says 81 = .ok (.iconst 3, 1) := by decide +kernel
theorem dL_says_82 : decode cL_says 82 = .ok (.iaload, 1) := by decide +kernel
theorem dL_says_83 : decode cL_says 83 = .ok (.aload_n 3, 1) := by decide +kernel
theorem dL_says_84 : decode cL_says 84 = .ok (.iconst 4, 1) := by decide +kernel
theorem dL_says_85 : decode cL_says 85 = .ok (.iaload, 1) := by decide +kernel
theorem dL_says_86 : decode cL_says 86 = .ok (.invokevirtual 18, 3) := by decide +kernel
theorem dL_says_89 : decode cL_says 89 = .ok (.pop, 1) := by decide +kernel
theorem dL_says_90 : decode cL_says 90 = .ok (.iinc 2 20, 3) := by decide +kernel
theorem dL_says_93 : decode cL_says 93 = .ok (.goto (-91), 3) := by decide +kernel
theorem dL_says_96 : decode cL_says 96 = .ok (.aload_n 0, 1) := by decide +kernel
theorem dL_says_97 : decode cL_says 97 = .ok (.aload_n 1, 1) := by decide +kernel
theorem dL_says_98 : decode cL_says 98 = .ok (.invokevirtual 8, 3) := by decide +kernel
theorem dL_says_101 : decode cL_says 101 = .ok (.invokevirtual 24, 3) := by decide +kernel
theorem dL_says_104 : decode cL_says 104 = .ok (.pop, 1) := by decide +kernel
theorem dL_says_105 : decode cL_says 105 = .ok (.return_, 1) := by decide +kernel
theorem dL_loaded_0 : decode cL_loaded 0 = .ok (.aload_n 0, 1) := by decide +kernel
theorem dL_loaded_1 : decode cL_loaded 1 = .ok (.invokevirtual 28, 3) := by decide +kernel
theorem dL_loaded_4 : decode cL_loaded 4 = .ok (.ireturn, 1) := by decide +kernel
theorem dL_loaded_5 : decode cL_loaded 5 = .ok (.astore_n 1, 1) := by decide +kernel
theorem dL_loaded_6 : decode cL_loaded 6 = .ok (.bipush (-9), 2) := by decide +kernel
theorem dL_loaded_8 : decode cL_loaded 8 = .ok (.ireturn, 1) := by decide +kernel
theorem dL_kind_0 : decode cL_kind 0 = .ok (.iload_n 0, 1) := by decide +kernel
theorem dL_kind_1 : decode cL_kind 1 = .ok (.iconst 3, 1) := by decide +kernel
theorem dL_kind_2 : decode cL_kind 2 = .ok (.irem, 1) := by decide +kernel
theorem dL_kind_3 : decode cL_kind 3 = .ok (.ifCond .ne 8, 3) := by decide +kernel
theorem dL_kind_6 : decode cL_kind 6 = .ok (.ldc 33, 2) := by decide +kernel
theorem dL_kind_8 : decode cL_kind 8 = .ok (.goto 17, 3) := by decide +kernel
theorem dL_kind_11 : decode cL_kind 11 = .ok (.iload_n 0, 1) := by decide +kernel
theorem dL_kind_12 : decode cL_kind 12 = .ok (.iconst 3, 1) := by decide +kernel
theorem dL_kind_13 : decode cL_kind 13 = .ok (.irem, 1) := by decide +kernel
theorem dL_kind_14 : decode cL_kind 14 = .ok (.iconst 1, 1) := by decide +kernel
theorem dL_kind_15 : decode cL_kind 15 = .ok (.if_icmp .ne 8, 3) := by decide +kernel
theorem dL_kind_18 : decode cL_kind 18 = .ok (.ldc 35, 2) := by decide +kernel
theorem dL_kind_20 : decode cL_kind 20 = .ok (.goto 5, 3) := by decide +kernel
theorem dL_kind_23 : decode cL_kind 23 = .ok (.ldc 37, 2) := by decide +kernel
theorem dL_kind_25 : decode cL_kind 25 = .ok (.areturn, 1) := by decide +kernel
theorem dL_text_0 : decode cL_text 0 = .ok (.aload_n 0, 1) := by decide +kernel
theorem dL_text_1 : decode cL_text 1 = .ok (.iconst 0, 1) := by decide +kernel
theorem dL_text_2 : decode cL_text 2 = .ok (.invokestatic 39, 3) := by decide +kernel
theorem dL_text_5 : decode cL_text 5 = .ok (.istore_n 1, 1) := by decide +kernel
theorem dL_text_6 : decode cL_text 6 = .ok (.new 45, 3) := by decide +kernel
theorem dL_text_9 : decode cL_text 9 = .ok (.dup, 1) := by decide +kernel
theorem dL_text_10 : decode cL_text 10 = .ok (.ldc 47, 2) := by decide +kernel
theorem dL_text_12 : decode cL_text 12 = .ok (.invokespecial 49, 3) := by decide +kernel
theorem dL_text_15 : decode cL_text 15 = .ok (.iconst 1, 1) := by decide +kernel
theorem dL_text_16 : decode cL_text 16 = .ok (.iload_n 1, 1) := by decide +kernel
theorem dL_text_17 : decode cL_text 17 = .ok (.bipush 40, 2) := by decide +kernel
theorem dL_text_19 : decode cL_text 19 = .ok (.irem, 1) := by decide +kernel
theorem dL_text_20 : decode cL_text 20 = .ok (.iadd, 1) := by decide +kernel
theorem dL_text_21 : decode cL_text 21 = .ok (.invokevirtual 52, 3) := by decide +kernel
theorem dL_text_24 : decode cL_text 24 = .ok (.bipush 32, 2) := by decide +kernel
theorem dL_text_26 : decode cL_text 26 = .ok (.invokevirtual 56, 3) := by decide +kernel
theorem dL_text_29 : decode cL_text 29 = .ok (.iconst 1, 1) := by decide +kernel
theorem dL_text_30 : decode cL_text 30 = .ok (.iload_n 1, 1) := by decide +kernel
theorem dL_text_31 : decode cL_text 31 = .ok (.bipush 64, 2) := by decide +kernel
theorem dL_text_33 : decode cL_text 33 = .ok (.idiv, 1) := by decide +kernel
theorem dL_text_34 : decode cL_text 34 = .ok (.bipush 30, 2) := by decide +kernel
theorem dL_text_36 : decode cL_text 36 = .ok (.irem, 1) := by decide +kernel
theorem dL_text_37 : decode cL_text 37 = .ok (.iadd, 1) := by decide +kernel
theorem dL_text_38 : decode cL_text 38 = .ok (.invokevirtual 52, 3) := by decide +kernel
theorem dL_text_41 : decode cL_text 41 = .ok (.bipush 32, 2) := by decide +kernel
theorem dL_text_43 : decode cL_text 43 = .ok (.invokevirtual 56, 3) := by decide +kernel
theorem dL_text_46 : decode cL_text 46 = .ok (.iconst 1, 1) := by decide +kernel
theorem dL_text_47 : decode cL_text 47 = .ok (.iload_n 1, 1) := by decide +kernel
theorem dL_text_48 : decode cL_text 48 = .ok (.sipush 4096, 3) := by decide +kernel
theorem dL_text_51 : decode cL_text 51 = .ok (.idiv, 1) := by decide +kernel
theorem dL_text_52 : decode cL_text 52 = .ok (.bipush 30, 2) := by decide +kernel
theorem dL_text_54 : decode cL_text 54 = .ok (.irem, 1) := by decide +kernel
theorem dL_text_55 : decode cL_text 55 = .ok (.iadd, 1) := by decide +kernel
theorem dL_text_56 : decode cL_text 56 = .ok (.invokevirtual 52, 3) := by decide +kernel
theorem dL_text_59 : decode cL_text 59 = .ok (.bipush 59, 2) := by decide +kernel
theorem dL_text_61 : decode cL_text 61 = .ok (.invokevirtual 56, 3) := by decide +kernel
theorem dL_text_64 : decode cL_text 64 = .ok (.astore_n 2, 1) := by decide +kernel
theorem dL_text_65 : decode cL_text 65 = .ok (.iconst 0, 1) := by decide +kernel
theorem dL_text_66 : decode cL_text 66 = .ok (.istore_n 3, 1) := by decide +kernel
theorem dL_text_67 : decode cL_text 67 = .ok (.iload_n 3, 1) := by decide +kernel
theorem dL_text_68 : decode cL_text 68 = .ok (.iconst 3, 1) := by decide +kernel
theorem dL_text_69 : decode cL_text 69 = .ok (.if_icmp .ge 124, 3) := by decide +kernel
theorem dL_text_72 : decode cL_text 72 = .ok (.aload_n 0, 1) := by decide +kernel
theorem dL_text_73 : decode cL_text 73 = .ok (.iconst 1, 1) := by decide +kernel
theorem dL_text_74 : decode cL_text 74 = .ok (.invokestatic 39, 3) := by decide +kernel
theorem dL_text_77 : decode cL_text 77 = .ok (.iconst 1, 1) := by decide +kernel
theorem dL_text_78 : decode cL_text 78 = .ok (.bipush 97, 2) := by decide +kernel
theorem dL_text_80 : decode cL_text 80 = .ok (.iload_n 3, 1) := by decide +kernel
theorem dL_text_81 : decode cL_text 81 = .ok (.imul, 1) := by decide +kernel
theorem dL_text_82 : decode cL_text 82 = .ok (.iadd, 1) := by decide +kernel
theorem dL_text_83 : decode cL_text 83 = .ok (.idiv, 1) := by decide +kernel
theorem dL_text_84 : decode cL_text 84 = .ok (.istore 4, 2) := by decide +kernel
theorem dL_text_86 : decode cL_text 86 = .ok (.aload_n 2, 1) := by decide +kernel
theorem dL_text_87 : decode cL_text 87 = .ok (.ldc 59, 2) := by decide +kernel
theorem dL_text_89 : decode cL_text 89 = .ok (.invokevirtual 61, 3) := by decide +kernel
theorem dL_text_92 : decode cL_text 92 = .ok (.ldc 64, 2) := by decide +kernel
theorem dL_text_94 : decode cL_text 94 = .ok (.iload_n 3, 1) := by decide +kernel
theorem dL_text_95 : decode cL_text 95 = .ok (.invokevirtual 14, 3) := by decide +kernel
theorem dL_text_98 : decode cL_text 98 = .ok (.invokevirtual 56, 3) := by decide +kernel
theorem dL_text_101 : decode cL_text 101 = .ok (.bipush 32, 2) := by decide +kernel
theorem dL_text_103 : decode cL_text 103 = .ok (.invokevirtual 56, 3) := by decide +kernel
theorem dL_text_106 : decode cL_text 106 = .ok (.iconst 1, 1) := by decide +kernel
theorem dL_text_107 : decode cL_text 107 = .ok (.iload 4, 2) := by decide +kernel
theorem dL_text_109 : decode cL_text 109 = .ok (.bipush 6, 2) := by decide +kernel
theorem dL_text_111 : decode cL_text 111 = .ok (.irem, 1) := by decide +kernel
theorem dL_text_112 : decode cL_text 112 = .ok (.iadd, 1) := by decide +kernel
theorem dL_text_113 : decode cL_text 113 = .ok (.invokevirtual 52, 3) := by decide +kernel
theorem dL_text_116 : decode cL_text 116 = .ok (.bipush 32, 2) := by decide +kernel
theorem dL_text_118 : decode cL_text 118 = .ok (.invokevirtual 56, 3) := by decide +kernel
theorem dL_text_121 : decode cL_text 121 = .ok (.iconst 1, 1) := by decide +kernel
theorem dL_text_122 : decode cL_text 122 = .ok (.iload 4, 2) := by decide +kernel
theorem dL_text_124 : decode cL_text 124 = .ok (.bipush 8, 2) := by decide +kernel
theorem dL_text_126 : decode cL_text 126 = .ok (.idiv, 1) := by decide +kernel
theorem dL_text_127 : decode cL_text 127 = .ok (.iconst 4, 1) := by decide +kernel
theorem dL_text_128 : decode cL_text 128 = .ok (.irem, 1) := by decide +kernel
theorem dL_text_129 : decode cL_text 129 = .ok (.iadd, 1) := by decide +kernel
theorem dL_text_130 : decode cL_text 130 = .ok (.invokevirtual 52, 3) := by decide +kernel
theorem dL_text_133 : decode cL_text 133 = .ok (.bipush 59, 2) := by decide +kernel
theorem dL_text_135 : decode cL_text 135 = .ok (.invokevirtual 56, 3) := by decide +kernel
theorem dL_text_138 : decode cL_text 138 = .ok (.pop, 1) := by decide +kernel
theorem dL_text_139 : decode cL_text 139 = .ok (.iload 4, 2) := by decide +kernel
theorem dL_text_141 : decode cL_text 141 = .ok (.bipush 64, 2) := by decide +kernel
theorem dL_text_143 : decode cL_text 143 = .ok (.idiv, 1) := by decide +kernel
theorem dL_text_144 : decode cL_text 144 = .ok (.iconst 3, 1) := by decide +kernel
theorem dL_text_145 : decode cL_text 145 = .ok (.irem, 1) := by decide +kernel
theorem dL_text_146 : decode cL_text 146 = .ok (.ifCond .le 41, 3) := by decide +kernel
theorem dL_text_149 : decode cL_text 149 = .ok (.aload_n 2, 1) := by decide +kernel
theorem dL_text_150 : decode cL_text 150 = .ok (.ldc 66, 2) := by decide +kernel
theorem dL_text_152 : decode cL_text 152 = .ok (.invokevirtual 61, 3) := by decide +kernel
theorem dL_text_155 : decode cL_text 155 = .ok (.ldc 64, 2) := by decide +kernel
theorem dL_text_157 : decode cL_text 157 = .ok (.iload_n 3, 1) := by decide +kernel
theorem dL_text_158 : decode cL_text 158 = .ok (.invokevirtual 14, 3) := by decide +kernel
theorem dL_text_161 : decode cL_text 161 = .ok (.invokevirtual 56, 3) := by decide +kernel
theorem dL_text_164 : decode cL_text 164 = .ok (.bipush 32, 2) := by decide +kernel
theorem dL_text_166 : decode cL_text 166 = .ok (.invokevirtual 56, 3) := by decide +kernel
theorem dL_text_169 : decode cL_text 169 = .ok (.iload 4, 2) := by decide +kernel
theorem dL_text_171 : decode cL_text 171 = .ok (.sipush 256, 3) := by decide +kernel
theorem dL_text_174 : decode cL_text 174 = .ok (.idiv, 1) := by decide +kernel
theorem dL_text_175 : decode cL_text 175 = .ok (.invokestatic 68, 3) := by decide +kernel
theorem dL_text_178 : decode cL_text 178 = .ok (.invokevirtual 61, 3) := by decide +kernel
theorem dL_text_181 : decode cL_text 181 = .ok (.bipush 59, 2) := by decide +kernel
theorem dL_text_183 : decode cL_text 183 = .ok (.invokevirtual 56, 3) := by decide +kernel
theorem dL_text_186 : decode cL_text 186 = .ok (.pop, 1) := by decide +kernel
theorem dL_text_187 : decode cL_text 187 = .ok (.iinc 3 1, 3) := by decide +kernel
theorem dL_text_190 : decode cL_text 190 = .ok (.goto (-123), 3) := by decide +kernel
theorem dL_text_193 : decode cL_text 193 = .ok (.iconst 0, 1) := by decide +kernel
theorem dL_text_194 : decode cL_text 194 = .ok (.istore_n 3, 1) := by decide +kernel
theorem dL_text_195 : decode cL_text 195 = .ok (.iload_n 3, 1) := by decide +kernel
theorem dL_text_196 : decode cL_text 196 = .ok (.iconst 2, 1) := by decide +kernel
theorem dL_text_197 : decode cL_text 197 = .ok (.if_icmp .ge 127, 3) := by decide +kernel
theorem dL_text_200 : decode cL_text 200 = .ok (.aload_n 0, 1) := by decide +kernel
theorem dL_text_201 : decode cL_text 201 = .ok (.iconst 2, 1) := by decide +kernel
theorem dL_text_202 : decode cL_text 202 = .ok (.invokestatic 39, 3) := by decide +kernel
theorem dL_text_205 : decode cL_text 205 = .ok (.iconst 1, 1) := by decide +kernel
theorem dL_text_206 : decode cL_text 206 = .ok (.bipush 61, 2) := by decide +kernel
theorem dL_text_208 : decode cL_text 208 = .ok (.iload_n 3, 1) := by decide +kernel
theorem dL_text_209 : decode cL_text 209 = .ok (.imul, 1) := by decide +kernel
theorem dL_text_210 : decode cL_text 210 = .ok (.iadd, 1) := by decide +kernel
theorem dL_text_211 : decode cL_text 211 = .ok (.idiv, 1) := by decide +kernel
theorem dL_text_212 : decode cL_text 212 = .ok (.istore 4, 2) := by decide +kernel
theorem dL_text_214 : decode cL_text 214 = .ok (.aload_n 2, 1) := by decide +kernel
theorem dL_text_215 : decode cL_text 215 = .ok (.ldc 72, 2) := by decide +kernel
theorem dL_text_217 : decode cL_text 217 = .ok (.invokevirtual 61, 3) := by decide +kernel
theorem dL_text_220 : decode cL_text 220 = .ok (.ldc 74, 2) := by decide +kernel
theorem dL_text_222 : decode cL_text 222 = .ok (.iload_n 3, 1) := by decide +kernel
theorem dL_text_223 : decode cL_text 223 = .ok (.invokevirtual 14, 3) := by decide +kernel
theorem dL_text_226 : decode cL_text 226 = .ok (.invokevirtual 56, 3) := by decide +kernel
theorem dL_text_229 : decode cL_text 229 = .ok (.bipush 32, 2) := by decide +kernel
theorem dL_text_231 : decode cL_text 231 = .ok (.invokevirtual 56, 3) := by decide +kernel
theorem dL_text_234 : decode cL_text 234 = .ok (.iload 4, 2) := by decide +kernel
theorem dL_text_236 : decode cL_text 236 = .ok (.invokestatic 68, 3) := by decide +kernel
theorem dL_text_239 : decode cL_text 239 = .ok (.invokevirtual 61, 3) := by decide +kernel
theorem dL_text_242 : decode cL_text 242 = .ok (.bipush 32, 2) := by decide +kernel
theorem dL_text_244 : decode cL_text 244 = .ok (.invokevirtual 56, 3) := by decide +kernel
theorem dL_text_247 : decode cL_text 247 = .ok (.iconst 1, 1) := by decide +kernel
theorem dL_text_248 : decode cL_text 248 = .ok (.iload 4, 2) := by decide +kernel
theorem dL_text_250 : decode cL_text 250 = .ok (.iconst 4, 1) := by decide +kernel
theorem dL_text_251 : decode cL_text 251 = .ok (.idiv, 1) := by decide +kernel
theorem dL_text_252 : decode cL_text 252 = .ok (.iconst 5, 1) := by decide +kernel
theorem dL_text_253 : decode cL_text 253 = .ok (.irem, 1) := by decide +kernel
theorem dL_text_254 : decode cL_text 254 = .ok (.iadd, 1) := by decide +kernel
theorem dL_text_255 : decode cL_text 255 = .ok (.invokevirtual 52, 3) := by decide +kernel
theorem dL_text_258 : decode cL_text 258 = .ok (.bipush 32, 2) := by decide +kernel
theorem dL_text_260 : decode cL_text 260 = .ok (.invokevirtual 56, 3) := by decide +kernel
theorem dL_text_263 : decode cL_text 263 = .ok (.iconst 1, 1) := by decide +kernel
theorem dL_text_264 : decode cL_text 264 = .ok (.iload 4, 2) := by decide +kernel
theorem dL_text_266 : decode cL_text 266 = .ok (.bipush 32, 2) := by decide +kernel
theorem dL_text_268 : decode cL_text 268 = .ok (.idiv, 1) := by decide +kernel
theorem dL_text_269 : decode cL_text 269 = .ok (.bipush 40, 2) := by decide +kernel
theorem dL_text_271 : decode cL_text 271 = .ok (.irem, 1) := by decide +kernel
theorem dL_text_272 : decode cL_text 272 = .ok (.iadd, 1) := by decide +kernel
theorem dL_text_273 : decode cL_text 273 = .ok (.invokevirtual 52, 3) := by decide +kernel
theorem dL_text_276 : decode cL_text 276 = .ok (.bipush 32, 2) := by decide +kernel
theorem dL_text_278 : decode cL_text 278 = .ok (.invokevirtual 56, 3) := by decide +kernel
theorem dL_text_281 : decode cL_text 281 = .ok (.iload 4, 2) := by decide +kernel
theorem dL_text_283 : decode cL_text 283 = .ok (.sipush 2048, 3) := by decide +kernel
theorem dL_text_286 : decode cL_text 286 = .ok (.idiv, 1) := by decide +kernel
theorem dL_text_287 : decode cL_text 287 = .ok (.sipush 200, 3) := by decide +kernel
theorem dL_text_290 : decode cL_text 290 = .ok (.irem, 1) := by decide +kernel
theorem dL_text_291 : decode cL_text 291 = .ok (.invokevirtual 52, 3) := by decide +kernel
theorem dL_text_294 : decode cL_text 294 = .ok (.bipush 32, 2) := by decide +kernel
theorem dL_text_296 : decode cL_text 296 = .ok (.invokevirtual 56, 3) := by decide +kernel
theorem dL_text_299 : decode cL_text 299 = .ok (.iconst 3, 1) := by decide +kernel
theorem dL_text_300 : decode cL_text 300 = .ok (.iload 4, 2) := by decide +kernel
theorem dL_text_302 : decode cL_text 302 = .ok (.ldc 76, 2) := by decide +kernel
theorem dL_text_304 : decode cL_text 304 = .ok (.idiv, 1) := by decide +kernel
theorem dL_text_305 : decode cL_text 305 = .ok (.bipush 20, 2) := by decide +kernel
theorem dL_text_307 : decode cL_text 307 = .ok (.irem, 1) := by decide +kernel
theorem dL_text_308 : decode cL_text 308 = .ok (.iadd, 1) := by decide +kernel
theorem dL_text_309 : decode cL_text 309 = .ok (.invokevirtual 52, 3) := by decide +kernel
theorem dL_text_312 : decode cL_text 312 = .ok (.bipush 59, 2) := by decide +kernel
theorem dL_text_314 : decode cL_text 314 = .ok (.invokevirtual 56, 3) := by decide +kernel
theorem dL_text_317 : decode cL_text 317 = .ok (.pop, 1) := by decide +kernel
theorem dL_text_318 : decode cL_text 318 = .ok (.iinc 3 1, 3) := by decide +kernel
theorem dL_text_321 : decode cL_text 321 = .ok (.goto (-126), 3) := by decide +kernel
theorem dL_text_324 : decode cL_text 324 = .ok (.aload_n 2, 1) := by decide +kernel
theorem dL_text_325 : decode cL_text 325 = .ok (.ldc 77, 2) := by decide +kernel
theorem dL_text_327 : decode cL_text 327 = .ok (.invokevirtual 61, 3) := by decide +kernel
theorem dL_text_330 : decode cL_text 330 = .ok (.iload_n 1, 1) := by decide +kernel
theorem dL_text_331 : decode cL_text 331 = .ok (.ldc 79, 2) := by decide +kernel
theorem dL_text_333 : decode cL_text 333 = .ok (.idiv, 1) := by decide +kernel
theorem dL_text_334 : decode cL_text 334 = .ok (.bipush 10, 2) := by decide +kernel
theorem dL_text_336 : decode cL_text 336 = .ok (.irem, 1) := by decide +kernel
theorem dL_text_337 : decode cL_text 337 = .ok (.invokevirtual 52, 3) := by decide +kernel
theorem dL_text_340 : decode cL_text 340 = .ok (.bipush 32, 2) := by decide +kernel
theorem dL_text_342 : decode cL_text 342 = .ok (.invokevirtual 56, 3) := by decide +kernel
theorem dL_text_345 : decode cL_text 345 = .ok (.iload_n 1, 1) := by decide +kernel
theorem dL_text_346 : decode cL_text 346 = .ok (.ldc 80, 2) := by decide +kernel
theorem dL_text_348 : decode cL_text 348 = .ok (.idiv, 1) := by decide +kernel
theorem dL_text_349 : decode cL_text 349 = .ok (.bipush 60, 2) := by decide +kernel
theorem dL_text_351 : decode cL_text 351 = .ok (.irem, 1) := by decide +kernel
theorem dL_text_352 : decode cL_text 352 = .ok (.invokevirtual 52, 3) := by decide +kernel
theorem dL_text_355 : decode cL_text 355 = .ok (.bipush 59, 2) := by decide +kernel
theorem dL_text_357 : decode cL_text 357 = .ok (.invokevirtual 56, 3) := by decide +kernel
theorem dL_text_360 : decode cL_text 360 = .ok (.invokevirtual 81, 3) := by decide +kernel
theorem dL_text_363 : decode cL_text 363 = .ok (.areturn, 1) := by decide +kernel
theorem dL_acts_0 : decode cL_acts 0 = .ok (.iload_n 1, 1) := by decide +kernel
theorem dL_acts_1 : decode cL_acts 1 = .ok (.bipush 16, 2) := by decide +kernel
theorem dL_acts_3 : decode cL_acts 3 = .ok (.idiv, 1) := by decide +kernel
theorem dL_acts_4 : decode cL_acts 4 = .ok (.istore_n 3, 1) := by decide +kernel
theorem dL_acts_5 : decode cL_acts 5 = .ok (.iload_n 1, 1) := by decide +kernel
theorem dL_acts_6 : decode cL_acts 6 = .ok (.bipush 16, 2) := by decide +kernel
theorem dL_acts_8 : decode cL_acts 8 = .ok (.irem, 1) := by decide +kernel
theorem dL_acts_9 : decode cL_acts 9 = .ok (.tableswitch 206 0 11 #[63, 63, 63, 76, 76, 76, 148, 171, 187, 198, 198, 198], 63) := by decide +kernel
theorem dL_acts_72 : decode cL_acts 72 = .ok (.aload_n 0, 1) := by decide +kernel
theorem dL_acts_73 : decode cL_acts 73 = .ok (.iload_n 3, 1) := by decide +kernel
theorem dL_acts_74 : decode cL_acts 74 = .ok (.iconst 3, 1) := by decide +kernel
theorem dL_acts_75 : decode cL_acts 75 = .ok (.irem, 1) := by decide +kernel
theorem dL_acts_76 : decode cL_acts 76 = .ok (.iload_n 3, 1) := by decide +kernel
theorem dL_acts_77 : decode cL_acts 77 = .ok (.iconst 4, 1) := by decide +kernel
theorem dL_acts_78 : decode cL_acts 78 = .ok (.idiv, 1) := by decide +kernel
theorem dL_acts_79 : decode cL_acts 79 = .ok (.iconst 3, 1) := by decide +kernel
theorem dL_acts_80 : decode cL_acts 80 = .ok (.irem, 1) := by decide +kernel
theorem dL_acts_81 : decode cL_acts 81 = .ok (.invokevirtual 85, 3) := by decide +kernel
theorem dL_acts_84 : decode cL_acts 84 = .ok (.ireturn, 1) := by decide +kernel
theorem dL_acts_85 : decode cL_acts 85 = .ok (.aload_n 0, 1) := by decide +kernel
theorem dL_acts_86 : decode cL_acts 86 = .ok (.new 45, 3) := by decide +kernel
theorem dL_acts_89 : decode cL_acts 89 = .ok (.dup, 1) := by decide +kernel
theorem dL_acts_90 : decode cL_acts 90 = .ok (.invokespecial 89, 3) := by decide +kernel
theorem dL_acts_93 : decode cL_acts 93 = .ok (.ldc 90, 2) := by decide +kernel
theorem dL_acts_95 : decode cL_acts 95 = .ok (.invokevirtual 61, 3) := by decide +kernel
theorem dL_acts_98 : decode cL_acts 98 = .ok (.bipush 97, 2) := by decide +kernel
theorem dL_acts_100 : decode cL_acts 100 = .ok (.iload_n 2, 1) := by decide +kernel
theorem dL_acts_101 : decode cL_acts 101 = .ok (.bipush 26, 2) := by decide +kernel
theorem dL_acts_103 : decode cL_acts 103 = .ok (.irem, 1) := by decide +kernel
theorem dL_acts_104 : decode cL_acts 104 = .ok (.iadd, 1) := by decide +kernel
theorem dL_acts_105 : decode cL_acts 105 = .ok (.i2c, 1) := by decide +kernel
theorem dL_acts_106 : decode cL_acts 106 = .ok (.invokevirtual 56, 3) := by decide +kernel
theorem dL_acts_109 : decode cL_acts 109 = .ok (.invokevirtual 81, 3) := by decide +kernel
theorem dL_acts_112 : decode cL_acts 112 = .ok (.invokestatic 92, 3) := by decide +kernel
theorem dL_acts_115 : decode cL_acts 115 = .ok (.aload_n 0, 1) := by decide +kernel
theorem dL_acts_116 : decode cL_acts 116 = .ok (.iload_n 3, 1) := by decide +kernel
theorem dL_acts_117 : decode cL_acts 117 = .ok (.iconst 3, 1) := by decide +kernel
theorem dL_acts_118 : decode cL_acts 118 = .ok (.irem, 1) := by decide +kernel
theorem dL_acts_119 : decode cL_acts 119 = .ok (.iconst 1, 1) := by decide +kernel
theorem dL_acts_120 : decode cL_acts 120 = .ok (.iload_n 3, 1) := by decide +kernel
theorem dL_acts_121 : decode cL_acts 121 = .ok (.iconst 4, 1) := by decide +kernel
theorem dL_acts_122 : decode cL_acts 122 = .ok (.idiv, 1) := by decide +kernel
theorem dL_acts_123 : decode cL_acts 123 = .ok (.iconst 5, 1) := by decide +kernel
theorem dL_acts_124 : decode cL_acts 124 = .ok (.irem, 1) := by decide +kernel
theorem dL_acts_125 : decode cL_acts 125 = .ok (.iadd, 1) := by decide +kernel
theorem dL_acts_126 : decode cL_acts 126 = .ok (.iconst 1, 1) := by decide +kernel
theorem dL_acts_127 : decode cL_acts 127 = .ok (.iload_n 3, 1) := by decide +kernel
theorem dL_acts_128 : decode cL_acts 128 = .ok (.bipush 32, 2) := by decide +kernel
theorem dL_acts_130 : decode cL_acts 130 = .ok (.idiv, 1) := by decide +kernel
theorem dL_acts_131 : decode cL_acts 131 = .ok (.bipush 40, 2) := by decide +kernel
theorem dL_acts_133 : decode cL_acts 133 = .ok (.irem, 1) := by decide +kernel
theorem dL_acts_134 : decode cL_acts 134 = .ok (.iadd, 1) := by decide +kernel
theorem dL_acts_135 : decode cL_acts 135 = .ok (.iload_n 3, 1) := by decide +kernel
theorem dL_acts_136 : decode cL_acts 136 = .ok (.sipush 2048, 3) := by decide +kernel
theorem dL_acts_139 : decode cL_acts 139 = .ok (.idiv, 1) := by decide +kernel
theorem dL_acts_140 : decode cL_acts 140 = .ok (.sipush 200, 3) := by decide +kernel
theorem dL_acts_143 : decode cL_acts 143 = .ok (.irem, 1) := by decide +kernel
theorem dL_acts_144 : decode cL_acts 144 = .ok (.iconst 1, 1) := by decide +kernel
theorem dL_acts_145 : decode cL_acts 145 = .ok (.iload_n 3, 1) := by decide +kernel
theorem dL_acts_146 : decode cL_acts 146 = .ok (.ldc 76, 2) := by decide +kernel
theorem dL_acts_148 : decode cL_acts 148 = .ok (.idiv, 1) := by decide +kernel
theorem dL_acts_149 : decode cL_acts 149 = .ok (.bipush 20, 2) := by decide +kernel
theorem dL_acts_151 : decode cL_acts 151 = .ok (.irem, 1) := by decide +kernel
theorem dL_acts_152 : decode cL_acts 152 = .ok (.iadd, 1) := by decide +kernel
theorem dL_acts_153 : decode cL_acts 153 = .ok (.invokevirtual 96, 3) := by decide +kernel
theorem dL_acts_156 : decode cL_acts 156 = .ok (.ireturn, 1) := by decide +kernel
theorem dL_acts_157 : decode cL_acts 157 = .ok (.aload_n 0, 1) := by decide +kernel
theorem dL_acts_158 : decode cL_acts 158 = .ok (.invokevirtual 99, 3) := by decide +kernel
theorem dL_acts_161 : decode cL_acts 161 = .ok (.ifCond .ne 8, 3) := by decide +kernel
theorem dL_acts_164 : decode cL_acts 164 = .ok (.bipush (-9), 2) := by decide +kernel
theorem dL_acts_166 : decode cL_acts 166 = .ok (.goto 13, 3) := by decide +kernel
theorem dL_acts_169 : decode cL_acts 169 = .ok (.aload_n 0, 1) := by decide +kernel
theorem dL_acts_170 : decode cL_acts 170 = .ok (.iload_n 3, 1) := by decide +kernel
theorem dL_acts_171 : decode cL_acts 171 = .ok (.aload_n 0, 1) := by decide +kernel
theorem dL_acts_172 : decode cL_acts 172 = .ok (.invokevirtual 99, 3) := by decide +kernel
theorem dL_acts_175 : decode cL_acts 175 = .ok (.irem, 1) := by decide +kernel
theorem dL_acts_176 : decode cL_acts 176 = .ok (.invokevirtual 102, 3) := by decide +kernel
theorem dL_acts_179 : decode cL_acts 179 = .ok (.ireturn, 1) := by decide +kernel
theorem dL_acts_180 : decode cL_acts 180 = .ok (.aload_n 0, 1) := by decide +kernel
theorem dL_acts_181 : decode cL_acts 181 = .ok (.iload_n 3, 1) := by decide +kernel
theorem dL_acts_182 : decode cL_acts 182 = .ok (.iconst 3, 1) := by decide +kernel
theorem dL_acts_183 : decode cL_acts 183 = .ok (.irem, 1) := by decide +kernel
theorem dL_acts_184 : decode cL_acts 184 = .ok (.iconst 1, 1) := by decide +kernel
theorem dL_acts_185 : decode cL_acts 185 = .ok (.iload_n 3, 1) := by decide +kernel
theorem dL_acts_186 : decode cL_acts 186 = .ok (.iconst 4, 1) := by decide +kernel
theorem dL_acts_187 : decode cL_acts 187 = .ok (.idiv, 1) := by decide +kernel
theorem dL_acts_188 : decode cL_acts 188 = .ok (.bipush 40, 2) := by decide +kernel
theorem dL_acts_190 : decode cL_acts 190 = .ok (.irem, 1) := by decide +kernel
theorem dL_acts_191 : decode cL_acts 191 = .ok (.iadd, 1) := by decide +kernel
theorem dL_acts_192 : decode cL_acts 192 = .ok (.invokevirtual 105, 3) := by decide +kernel
theorem dL_acts_195 : decode cL_acts 195 = .ok (.ireturn, 1) := by decide +kernel
theorem dL_acts_196 : decode cL_acts 196 = .ok (.aload_n 0, 1) := by decide +kernel
theorem dL_acts_197 : decode cL_acts 197 = .ok (.iconst 1, 1) := by decide +kernel
theorem dL_acts_198 : decode cL_acts 198 = .ok (.iload_n 3, 1) := by decide +kernel
theorem dL_acts_199 : decode cL_acts 199 = .ok (.bipush 40, 2) := by decide +kernel
theorem dL_acts_201 : decode cL_acts 201 = .ok (.irem, 1) := by decide +kernel
theorem dL_acts_202 : decode cL_acts 202 = .ok (.iadd, 1) := by decide +kernel
theorem dL_acts_203 : decode cL_acts 203 = .ok (.invokevirtual 108, 3) := by decide +kernel
theorem dL_acts_206 : decode cL_acts 206 = .ok (.ireturn, 1) := by decide +kernel
theorem dL_acts_207 : decode cL_acts 207 = .ok (.aload_n 0, 1) := by decide +kernel
theorem dL_acts_208 : decode cL_acts 208 = .ok (.iload_n 3, 1) := by decide +kernel
theorem dL_acts_209 : decode cL_acts 209 = .ok (.iconst 3, 1) := by decide +kernel
theorem dL_acts_210 : decode cL_acts 210 = .ok (.irem, 1) := by decide +kernel
theorem dL_acts_211 : decode cL_acts 211 = .ok (.invokevirtual 111, 3) := by decide +kernel
theorem dL_acts_214 : decode cL_acts 214 = .ok (.ireturn, 1) := by decide +kernel
theorem dL_acts_215 : decode cL_acts 215 = .ok (.aload_n 0, 1) := by decide +kernel
theorem dL_acts_216 : decode cL_acts 216 = .ok (.iconst 1, 1) := by decide +kernel
theorem dL_acts_217 : decode cL_acts 217 = .ok (.iload_n 3, 1) := by decide +kernel
theorem dL_acts_218 : decode cL_acts 218 = .ok (.iconst 3, 1) := by decide +kernel
theorem dL_acts_219 : decode cL_acts 219 = .ok (.irem, 1) := by decide +kernel
theorem dL_acts_220 : decode cL_acts 220 = .ok (.iadd, 1) := by decide +kernel
theorem dL_acts_221 : decode cL_acts 221 = .ok (.invokevirtual 114, 3) := by decide +kernel
theorem dL_acts_224 : decode cL_acts 224 = .ok (.ireturn, 1) := by decide +kernel
theorem dL_acts_225 : decode cL_acts 225 = .ok (.astore 4, 2) := by decide +kernel
theorem dL_acts_227 : decode cL_acts 227 = .ok (.aload_n 0, 1) := by decide +kernel
theorem dL_acts_228 : decode cL_acts 228 = .ok (.iconst 0, 1) := by decide +kernel
theorem dL_acts_229 : decode cL_acts 229 = .ok (.invokevirtual 24, 3) := by decide +kernel
theorem dL_acts_232 : decode cL_acts 232 = .ok (.pop, 1) := by decide +kernel
theorem dL_acts_233 : decode cL_acts 233 = .ok (.bipush (-9), 2) := by decide +kernel
theorem dL_acts_235 : decode cL_acts 235 = .ok (.ireturn, 1) := by decide +kernel
theorem dL_law_0 : decode cL_law 0 = .ok (.new 19, 3) := by decide +kernel
theorem dL_law_3 : decode cL_law 3 = .ok (.dup, 1) := by decide +kernel
theorem dL_law_4 : decode cL_law 4 = .ok (.invokespecial 119, 3) := by decide +kernel
theorem dL_law_7 : decode cL_law 7 = .ok (.astore_n 1, 1) := by decide +kernel
theorem dL_law_8 : decode cL_law 8 = .ok (.aload_n 1, 1) := by decide +kernel
theorem dL_law_9 : decode cL_law 9 = .ok (.aload_n 0, 1) := by decide +kernel
theorem dL_law_10 : decode cL_law 10 = .ok (.invokestatic 120, 3) := by decide +kernel
theorem dL_law_13 : decode cL_law 13 = .ok (.invokestatic 92, 3) := by decide +kernel
theorem dL_law_16 : decode cL_law 16 = .ok (.aload_n 1, 1) := by decide +kernel
theorem dL_law_17 : decode cL_law 17 = .ok (.invokestatic 124, 3) := by decide +kernel
theorem dL_law_20 : decode cL_law 20 = .ok (.iconst 2, 1) := by decide +kernel
theorem dL_law_21 : decode cL_law 21 = .ok (.if_icmp .ne 17, 3) := by decide +kernel
theorem dL_law_24 : decode cL_law 24 = .ok (.aload_n 1, 1) := by decide +kernel
theorem dL_law_25 : decode cL_law 25 = .ok (.invokevirtual 128, 3) := by decide +kernel
theorem dL_law_28 : decode cL_law 28 = .ok (.ifCond .ne 10, 3) := by decide +kernel
theorem dL_law_31 : decode cL_law 31 = .ok (.aload_n 1, 1) := by decide +kernel
theorem dL_law_32 : decode cL_law 32 = .ok (.invokevirtual 131, 3) := by decide +kernel
theorem dL_law_35 : decode cL_law 35 = .ok (.ifCond .eq 5, 3) := by decide +kernel
theorem dL_law_38 : decode cL_law 38 = .ok (.iconst 0, 1) := by decide +kernel
theorem dL_law_39 : decode cL_law 39 = .ok (.ireturn, 1) := by decide +kernel
theorem dL_law_40 : decode cL_law 40 = .ok (.new 134, 3) := by decide +kernel
theorem dL_law_43 : decode cL_law 43 = .ok (.dup, 1) := by decide +kernel
theorem dL_law_44 : decode cL_law 44 = .ok (.aload_n 1, 1) := by decide +kernel
theorem dL_law_45 : decode cL_law 45 = .ok (.invokespecial 136, 3) := by decide +kernel
theorem dL_law_48 : decode cL_law 48 = .ok (.astore_n 2, 1) := by decide +kernel
theorem dL_law_49 : decode cL_law 49 = .ok (.iconst 3, 1) := by decide +kernel
theorem dL_law_50 : decode cL_law 50 = .ok (.istore_n 3, 1) := by decide +kernel
theorem dL_law_51 : decode cL_law 51 = .ok (.iload_n 3, 1) := by decide +kernel
theorem dL_law_52 : decode cL_law 52 = .ok (.bipush 27, 2) := by decide +kernel
theorem dL_law_54 : decode cL_law 54 = .ok (.if_icmp .ge 60, 3) := by decide +kernel
theorem dL_law_57 : decode cL_law 57 = .ok (.aload_n 0, 1) := by decide +kernel
theorem dL_law_58 : decode cL_law 58 = .ok (.iload_n 3, 1) := by decide +kernel
theorem dL_law_59 : decode cL_law 59 = .ok (.invokestatic 39, 3) := by decide +kernel
theorem dL_law_62 : decode cL_law 62 = .ok (.istore 4, 2) := by decide +kernel
theorem dL_law_64 : decode cL_law 64 = .ok (.aload_n 2, 1) := by decide +kernel
theorem dL_law_65 : decode cL_law 65 = .ok (.iload 4, 2) := by decide +kernel
theorem dL_law_67 : decode cL_law 67 = .ok (.invokevirtual 139, 3) := by decide +kernel
theorem dL_law_70 : decode cL_law 70 = .ok (.istore 5, 2) := by decide +kernel
theorem dL_law_72 : decode cL_law 72 = .ok (.aload_n 1, 1) := by decide +kernel
theorem dL_law_73 : decode cL_law 73 = .ok (.iload 4, 2) := by decide +kernel
theorem dL_law_75 : decode cL_law 75 = .ok (.iload_n 3, 1) := by decide +kernel
theorem dL_law_76 : decode cL_law 76 = .ok (.invokestatic 142, 3) := by decide +kernel
theorem dL_law_79 : decode cL_law 79 = .ok (.iload 5, 2) := by decide +kernel
theorem dL_law_81 : decode cL_law 81 = .ok (.if_icmp .ne 25, 3) := by decide +kernel
theorem dL_law_84 : decode cL_law 84 = .ok (.aload_n 2, 1) := by decide +kernel
theorem dL_law_85 : decode cL_law 85 = .ok (.aload_n 1, 1) := by decide +kernel
theorem dL_law_86 : decode cL_law 86 = .ok (.invokevirtual 145, 3) := by decide +kernel
theorem dL_law_89 : decode cL_law 89 = .ok (.ifCond .eq 17, 3) := by decide +kernel
theorem dL_law_92 : decode cL_law 92 = .ok (.aload_n 1, 1) := by decide +kernel
theorem dL_law_93 : decode cL_law 93 = .ok (.invokevirtual 149, 3) := by decide +kernel
theorem dL_law_96 : decode cL_law 96 = .ok (.ifCond .ne 10, 3) := by decide +kernel
theorem dL_law_99 : decode cL_law 99 = .ok (.aload_n 1, 1) := by decide +kernel
theorem dL_law_100 : decode cL_law 100 = .ok (.invokevirtual 152, 3) := by decide +kernel
theorem dL_law_103 : decode cL_law 103 = .ok (.ifCond .eq 5, 3) := by decide +kernel
theorem dL_law_106 : decode cL_law 106 = .ok (.iconst 0, 1) := by decide +kernel
theorem dL_law_107 : decode cL_law 107 = .ok (.ireturn, 1) := by decide +kernel
theorem dL_law_108 : decode cL_law 108 = .ok (.iinc 3 1, 3) := by decide +kernel
theorem dL_law_111 : decode cL_law 111 = .ok (.goto (-60), 3) := by decide +kernel
theorem dL_law_114 : decode cL_law 114 = .ok (.iconst 1, 1) := by decide +kernel
theorem dL_law_115 : decode cL_law 115 = .ok (.ireturn, 1) := by decide +kernel
