theorem dX0_init_0 : decode cX0_init 0 = .ok (.aload_n 0, 1) := by decide +kernel
theorem dX0_init_1 : decode cX0_init 1 = .ok (.invokespecial 3, 3) := by decide +kernel
theorem dX0_init_4 : decode cX0_init 4 = .ok (.aload_n 0, 1) := by decide +kernel
theorem dX0_init_5 : decode cX0_init 5 = .ok (.bipush 90, 2) := by decide +kernel
theorem dX0_init_7 : decode cX0_init 7 = .ok (.newarray .int, 2) := by decide +kernel
theorem dX0_init_9 : decode cX0_init 9 = .ok (.putfield 9, 3) := by decide +kernel
theorem dX0_init_12 : decode cX0_init 12 = .ok (.aload_n 0, 1) := by decide +kernel
theorem dX0_init_13 : decode cX0_init 13 = .ok (.bipush 90, 2) := by decide +kernel
theorem dX0_init_15 : decode cX0_init 15 = .ok (.newarray .int, 2) := by decide +kernel
theorem dX0_init_17 : decode cX0_init 17 = .ok (.putfield 15, 3) := by decide +kernel
theorem dX0_init_20 : decode cX0_init 20 = .ok (.aload_n 0, 1) := by decide +kernel
theorem dX0_init_21 : decode cX0_init 21 = .ok (.bipush 60, 2) := by decide +kernel
theorem dX0_init_23 : decode cX0_init 23 = .ok (.newarray .int, 2) := by decide +kernel
theorem dX0_init_25 : decode cX0_init 25 = .ok (.putfield 18, 3) := by decide +kernel
theorem dX0_init_28 : decode cX0_init 28 = .ok (.aload_n 0, 1) := by decide +kernel
theorem dX0_init_29 : decode cX0_init 29 = .ok (.bipush 60, 2) := by decide +kernel
theorem dX0_init_31 : decode cX0_init 31 = .ok (.newarray .int, 2) := by decide +kernel
theorem dX0_init_33 : decode cX0_init 33 = .ok (.putfield 21, 3) := by decide +kernel
theorem dX0_init_36 : decode cX0_init 36 = .ok (.return_, 1) := by decide +kernel
theorem dX0_prepare_0 : decode cX0_prepare 0 = .ok (.aload_n 0, 1) := by decide +kernel
theorem dX0_prepare_1 : decode cX0_prepare 1 = .ok (.iconst 0, 1) := by decide +kernel
theorem dX0_prepare_2 : decode cX0_prepare 2 = .ok (.putfield 24, 3) := by decide +kernel
theorem dX0_prepare_5 : decode cX0_prepare 5 = .ok (.iconst 0, 1) := by decide +kernel
theorem dX0_prepare_6 : decode cX0_prepare 6 = .ok (.istore_n 3, 1) := by decide +kernel
theorem dX0_prepare_7 : decode cX0_prepare 7 = .ok (.iload_n 3, 1) := by decide +kernel
theorem dX0_prepare_8 : decode cX0_prepare 8 = .ok (.aload_n 1, 1) := by decide +kernel
theorem dX0_prepare_9 : decode cX0_prepare 9 = .ok (.getfield 28, 3) := by decide +kernel
theorem dX0_prepare_12 : decode cX0_prepare 12 = .ok (.getfield 34, 3) := by decide +kernel
theorem dX0_prepare_15 : decode cX0_prepare 15 = .ok (.if_icmp .ge 32, 3) := by decide +kernel
theorem dX0_prepare_18 : decode cX0_prepare 18 = .ok (.aload_n 0, 1) := by decide +kernel
theorem dX0_prepare_19 : decode cX0_prepare 19 = .ok (.iload_n 3, 1) := by decide +kernel
theorem dX0_prepare_20 : decode cX0_prepare 20 = .ok (.aload_n 1, 1) := by decide +kernel
theorem dX0_prepare_21 : decode cX0_prepare 21 = .ok (.getfield 28, 3) := by decide +kernel
theorem dX0_prepare_24 : decode cX0_prepare 24 = .ok (.getfield 39, 3) := by decide +kernel
theorem dX0_prepare_27 : decode cX0_prepare 27 = .ok (.iload_n 3, 1) := by decide +kernel
theorem dX0_prepare_28 : decode cX0_prepare 28 = .ok (.iaload, 1) := by decide +kernel
theorem dX0_prepare_29 : decode cX0_prepare 29 = .ok (.aload_n 1, 1) := by decide +kernel
theorem dX0_prepare_30 : decode cX0_prepare 30 = .ok (.getfield 28, 3) := by decide +kernel
theorem dX0_prepare_33 : decode cX0_prepare 33 = .ok (.iload_n 3, 1) := by decide +kernel
theorem dX0_prepare_34 : decode cX0_prepare 34 = .ok (.iload_n 2, 1) := by decide +kernel
theorem dX0_prepare_35 : decode cX0_prepare 35 = .ok (.invokevirtual 42, 3) := by decide +kernel
theorem dX0_prepare_38 : decode cX0_prepare 38 = .ok (.invokevirtual 46, 3) := by decide +kernel
theorem dX0_prepare_41 : decode cX0_prepare 41 = .ok (.iinc 3 1, 3) := by decide +kernel
theorem dX0_prepare_44 : decode cX0_prepare 44 = .ok (.goto (-37), 3) := by decide +kernel
theorem dX0_prepare_47 : decode cX0_prepare 47 = .ok (.aload_n 0, 1) := by decide +kernel
theorem dX0_prepare_48 : decode cX0_prepare 48 = .ok (.iconst 0, 1) := by decide +kernel
theorem dX0_prepare_49 : decode cX0_prepare 49 = .ok (.putfield 50, 3) := by decide +kernel
theorem dX0_prepare_52 : decode cX0_prepare 52 = .ok (.iconst 0, 1) := by decide +kernel
theorem dX0_prepare_53 : decode cX0_prepare 53 = .ok (.istore_n 3, 1) := by decide +kernel
theorem dX0_prepare_54 : decode cX0_prepare 54 = .ok (.iload_n 3, 1) := by decide +kernel
theorem dX0_prepare_55 : decode cX0_prepare 55 = .ok (.aload_n 1, 1) := by decide +kernel
theorem dX0_prepare_56 : decode cX0_prepare 56 = .ok (.getfield 53, 3) := by decide +kernel
theorem dX0_prepare_59 : decode cX0_prepare 59 = .ok (.getfield 57, 3) := by decide +kernel
theorem dX0_prepare_62 : decode cX0_prepare 62 = .ok (.if_icmp .ge 65, 3) := by decide +kernel
theorem dX0_prepare_65 : decode cX0_prepare 65 = .ok (.aload_n 0, 1) := by decide +kernel
theorem dX0_prepare_66 : decode cX0_prepare 66 = .ok (.getfield 50, 3) := by decide +kernel
theorem dX0_prepare_69 : decode cX0_prepare 69 = .ok (.bipush 60, 2) := by decide +kernel
theorem dX0_prepare_71 : decode cX0_prepare 71 = .ok (.if_icmp .ge 56, 3) := by decide +kernel
theorem dX0_prepare_74 : decode cX0_prepare 74 = .ok (.aload_n 1, 1) := by decide +kernel
theorem dX0_prepare_75 : decode cX0_prepare 75 = .ok (.getfield 53, 3) := by decide +kernel
theorem dX0_prepare_78 : decode cX0_prepare 78 = .ok (.getfield 60, 3) := by decide +kernel
theorem dX0_prepare_81 : decode cX0_prepare 81 = .ok (.iload_n 3, 1) := by decide +kernel
theorem dX0_prepare_82 : decode cX0_prepare 82 = .ok (.iaload, 1) := by decide +kernel
theorem dX0_prepare_83 : decode cX0_prepare 83 = .ok (.iload_n 2, 1) := by decide +kernel
theorem dX0_prepare_84 : decode cX0_prepare 84 = .ok (.if_icmp .ne 37, 3) := by decide +kernel
theorem dX0_prepare_87 : decode cX0_prepare 87 = .ok (.aload_n 0, 1) := by decide +kernel
theorem dX0_prepare_88 : decode cX0_prepare 88 = .ok (.getfield 18, 3) := by decide +kernel
theorem dX0_prepare_91 : decode cX0_prepare 91 = .ok (.aload_n 0, 1) := by decide +kernel
theorem dX0_prepare_92 : decode cX0_prepare 92 = .ok (.getfield 50, 3) := by decide +kernel
theorem dX0_prepare_95 : decode cX0_prepare 95 = .ok (.iload_n 3, 1) := by decide +kernel
theorem dX0_prepare_96 : decode cX0_prepare 96 = .ok (.iastore, 1) := by decide +kernel
theorem dX0_prepare_97 : decode cX0_prepare 97 = .ok (.aload_n 0, 1) := by decide +kernel
theorem dX0_prepare_98 : decode cX0_prepare 98 = .ok (.getfield 21, 3) := by decide +kernel
theorem dX0_prepare_101 : decode cX0_prepare 101 = .ok (.aload_n 0, 1) := by decide +kernel
theorem dX0_prepare_102 : decode cX0_prepare 102 = .ok (.getfield 50, 3) := by decide +kernel
theorem dX0_prepare_105 : decode cX0_prepare 105 = .ok (.aload_n 1, 1) := by decide +kernel
theorem dX0_prepare_106 : decode cX0_prepare 106 = .ok (.iload_n 3, 1) := by decide +kernel
theorem dX0_prepare_107 : decode cX0_prepare 107 = .ok (.invokevirtual 63, 3) := by decide +kernel
theorem dX0_prepare_110 : decode cX0_prepare 110 = .ok (.iastore, 1) := by decide +kernel
theorem dX0_prepare_111 : decode cX0_prepare 111 = .ok (.aload_n 0, 1) := by decide +kernel
theorem dX0_prepare_112 : decode cX0_prepare 112 = .ok (.dup, 1) := by decide +kernel
theorem dX0_prepare_113 : decode cX0_prepare 113 = .ok (.getfield 50, 3) := by decide +kernel
theorem dX0_prepare_116 : decode cX0_prepare 116 = .ok (.iconst 1, 1) := by decide +kernel
theorem dX0_prepare_117 : decode cX0_prepare 117 = .ok (.iadd, 1) := by decide +kernel
theorem dX0_prepare_118 : decode cX0_prepare 118 = .ok (.putfield 50, 3) := by decide +kernel
theorem dX0_prepare_121 : decode cX0_prepare 121 = .ok (.iinc 3 1, 3) := by decide +kernel
theorem dX0_prepare_124 : decode cX0_prepare 124 = .ok (.goto (-70), 3) := by decide +kernel
theorem dX0_prepare_127 : decode cX0_prepare 127 = .ok (.aload_n 0, 1) := by decide +kernel
theorem dX0_prepare_128 : decode cX0_prepare 128 = .ok (.iconst 0, 1) := by decide +kernel
theorem dX0_prepare_129 : decode cX0_prepare 129 = .ok (.putfield 67, 3) := by decide +kernel
theorem dX0_prepare_132 : decode cX0_prepare 132 = .ok (.aload_n 0, 1) := by decide +kernel
theorem dX0_prepare_133 : decode cX0_prepare 133 = .ok (.getfield 67, 3) := by decide +kernel
theorem dX0_prepare_136 : decode cX0_prepare 136 = .ok (.aload_n 0, 1) := by decide +kernel
theorem dX0_prepare_137 : decode cX0_prepare 137 = .ok (.getfield 24, 3) := by decide +kernel
theorem dX0_prepare_140 : decode cX0_prepare 140 = .ok (.if_icmp .ge 48, 3) := by decide +kernel
theorem dX0_prepare_143 : decode cX0_prepare 143 = .ok (.aload_n 0, 1) := by decide +kernel
theorem dX0_prepare_144 : decode cX0_prepare 144 = .ok (.getfield 67, 3) := by decide +kernel
theorem dX0_prepare_147 : decode cX0_prepare 147 = .ok (.aload_n 0, 1) := by decide +kernel
theorem dX0_prepare_148 : decode cX0_prepare 148 = .ok (.getfield 50, 3) := by decide +kernel
theorem dX0_prepare_151 : decode cX0_prepare 151 = .ok (.if_icmp .ge 37, 3) := by decide +kernel
theorem dX0_prepare_154 : decode cX0_prepare 154 = .ok (.aload_n 0, 1) := by decide +kernel
theorem dX0_prepare_155 : decode cX0_prepare 155 = .ok (.getfield 15, 3) := by decide +kernel
theorem dX0_prepare_158 : decode cX0_prepare 158 = .ok (.aload_n 0, 1) := by decide +kernel
theorem dX0_prepare_159 : decode cX0_prepare 159 = .ok (.getfield 67, 3) := by decide +kernel
theorem dX0_prepare_162 : decode cX0_prepare 162 = .ok (.iaload, 1) := by decide +kernel
theorem dX0_prepare_163 : decode cX0_prepare 163 = .ok (.aload_n 0, 1) := by decide +kernel
theorem dX0_prepare_164 : decode cX0_prepare 164 = .ok (.getfield 21, 3) := by decide +kernel
theorem dX0_prepare_167 : decode cX0_prepare 167 = .ok (.aload_n 0, 1) := by decide +kernel
theorem dX0_prepare_168 : decode cX0_prepare 168 = .ok (.getfield 67, 3) := by decide +kernel
theorem dX0_prepare_171 : decode cX0_prepare 171 = .ok (.iaload, 1) := by decide +kernel
theorem dX0_prepare_172 : decode cX0_prepare 172 = .ok (.if_icmp .lt 16, 3) := by decide +kernel
theorem dX0_prepare_175 : decode cX0_prepare 175 = .ok (.aload_n 0, 1) := by decide +kernel
theorem dX0_prepare_176 : decode cX0_prepare 176 = .ok (.dup, 1) := by decide +kernel
theorem dX0_prepare_177 : decode cX0_prepare 177 = .ok (.getfield 67, 3) := by decide +kernel
theorem dX0_prepare_180 : decode cX0_prepare 180 = .ok (.iconst 1, 1) := by decide +kernel
theorem dX0_prepare_181 : decode cX0_prepare 181 = .ok (.iadd, 1) := by decide +kernel
theorem dX0_prepare_182 : decode cX0_prepare 182 = .ok (.putfield 67, 3) := by decide +kernel
theorem dX0_prepare_185 : decode cX0_prepare 185 = .ok (.goto (-53), 3) := by decide +kernel
theorem dX0_prepare_188 : decode cX0_prepare 188 = .ok (.aload_n 0, 1) := by decide +kernel
theorem dX0_prepare_189 : decode cX0_prepare 189 = .ok (.aload_n 0, 1) := by decide +kernel
theorem dX0_prepare_190 : decode cX0_prepare 190 = .ok (.getfield 67, 3) := by decide +kernel
theorem dX0_prepare_193 : decode cX0_prepare 193 = .ok (.ifCond .ne 7, 3) := by decide +kernel
theorem dX0_prepare_196 : decode cX0_prepare 196 = .ok (.iconst 0, 1) := by decide +kernel
theorem dX0_prepare_197 : decode cX0_prepare 197 = .ok (.goto 7, 3) := by decide +kernel
theorem dX0_prepare_200 : decode cX0_prepare 200 = .ok (.aload_n 0, 1) := by decide +kernel
theorem dX0_prepare_201 : decode cX0_prepare 201 = .ok (.invokevirtual 70, 3) := by decide +kernel
theorem dX0_prepare_204 : decode cX0_prepare 204 = .ok (.putfield 74, 3) := by decide +kernel
theorem dX0_prepare_207 : decode cX0_prepare 207 = .ok (.return_, 1) := by decide +kernel
theorem dX0_hold_0 : decode cX0_hold 0 = .ok (.aload_n 0, 1) := by decide +kernel
theorem dX0_hold_1 : decode cX0_hold 1 = .ok (.aload_n 1, 1) := by decide +kernel
theorem dX0_hold_2 : decode cX0_hold 2 = .ok (.iload_n 2, 1) := by decide +kernel
theorem dX0_hold_3 : decode cX0_hold 3 = .ok (.invokevirtual 77, 3) := by decide +kernel
theorem dX0_hold_6 : decode cX0_hold 6 = .ok (.aload_n 0, 1) := by decide +kernel
theorem dX0_hold_7 : decode cX0_hold 7 = .ok (.getfield 67, 3) := by decide +kernel
theorem dX0_hold_10 : decode cX0_hold 10 = .ok (.ifCond .ne 4, 3) := by decide +kernel
theorem dX0_hold_13 : decode cX0_hold 13 = .ok (.return_, 1) := by decide +kernel
theorem dX0_hold_14 : decode cX0_hold 14 = .ok (.iconst 0, 1) := by decide +kernel
theorem dX0_hold_15 : decode cX0_hold 15 = .ok (.istore_n 3, 1) := by decide +kernel
theorem dX0_hold_16 : decode cX0_hold 16 = .ok (.iload_n 3, 1) := by decide +kernel
theorem dX0_hold_17 : decode cX0_hold 17 = .ok (.aload_n 0, 1) := by decide +kernel
theorem dX0_hold_18 : decode cX0_hold 18 = .ok (.getfield 67, 3) := by decide +kernel
theorem dX0_hold_21 : decode cX0_hold 21 = .ok (.if_icmp .ge 27, 3) := by decide +kernel
theorem dX0_hold_24 : decode cX0_hold 24 = .ok (.aload_n 0, 1) := by decide +kernel
theorem dX0_hold_25 : decode cX0_hold 25 = .ok (.aload_n 1, 1) := by decide +kernel
theorem dX0_hold_26 : decode cX0_hold 26 = .ok (.aload_n 0, 1) := by decide +kernel
theorem dX0_hold_27 : decode cX0_hold 27 = .ok (.getfield 9, 3) := by decide +kernel
theorem dX0_hold_30 : decode cX0_hold 30 = .ok (.iload_n 3, 1) := by decide +kernel
theorem dX0_hold_31 : decode cX0_hold 31 = .ok (.iaload, 1) := by decide +kernel
theorem dX0_hold_32 : decode cX0_hold 32 = .ok (.aload_n 0, 1) := by decide +kernel
theorem dX0_hold_33 : decode cX0_hold 33 = .ok (.getfield 18, 3) := by decide +kernel
theorem dX0_hold_36 : decode cX0_hold 36 = .ok (.iload_n 3, 1) := by decide +kernel
theorem dX0_hold_37 : decode cX0_hold 37 = .ok (.iaload, 1) := by decide +kernel
theorem dX0_hold_38 : decode cX0_hold 38 = .ok (.iload_n 2, 1) := by decide +kernel
theorem dX0_hold_39 : decode cX0_hold 39 = .ok (.invokevirtual 81, 3) := by decide +kernel
theorem dX0_hold_42 : decode cX0_hold 42 = .ok (.iinc 3 1, 3) := by decide +kernel
theorem dX0_hold_45 : decode cX0_hold 45 = .ok (.goto (-29), 3) := by decide +kernel
theorem dX0_hold_48 : decode cX0_hold 48 = .ok (.aload_n 1, 1) := by decide +kernel
theorem dX0_hold_49 : decode cX0_hold 49 = .ok (.getfield 53, 3) := by decide +kernel
theorem dX0_hold_52 : decode cX0_hold 52 = .ok (.invokevirtual 85, 3) := by decide +kernel
theorem dX0_hold_55 : decode cX0_hold 55 = .ok (.aload_n 1, 1) := by decide +kernel
theorem dX0_hold_56 : decode cX0_hold 56 = .ok (.getfield 88, 3) := by decide +kernel
theorem dX0_hold_59 : decode cX0_hold 59 = .ok (.iconst 1, 1) := by decide +kernel
theorem dX0_hold_60 : decode cX0_hold 60 = .ok (.iload_n 2, 1) := by decide +kernel
theorem dX0_hold_61 : decode cX0_hold 61 = .ok (.aload_n 0, 1) := by decide +kernel
theorem dX0_hold_62 : decode cX0_hold 62 = .ok (.getfield 74, 3) := by decide +kernel
theorem dX0_hold_65 : decode cX0_hold 65 = .ok (.invokevirtual 92, 3) := by decide +kernel
theorem dX0_hold_68 : decode cX0_hold 68 = .ok (.aload_n 1, 1) := by decide +kernel
theorem dX0_hold_69 : decode cX0_hold 69 = .ok (.getfield 28, 3) := by decide +kernel
theorem dX0_hold_72 : decode cX0_hold 72 = .ok (.astore_n 3, 1) := by decide +kernel
theorem dX0_hold_73 : decode cX0_hold 73 = .ok (.iconst 0, 1) := by decide +kernel
theorem dX0_hold_74 : decode cX0_hold 74 = .ok (.istore 4, 2) := by decide +kernel
theorem dX0_hold_76 : decode cX0_hold 76 = .ok (.iload 4, 2) := by decide +kernel
theorem dX0_hold_78 : decode cX0_hold 78 = .ok (.aload_n 3, 1) := by decide +kernel
theorem dX0_hold_79 : decode cX0_hold 79 = .ok (.getfield 34, 3) := by decide +kernel
theorem dX0_hold_82 : decode cX0_hold 82 = .ok (.if_icmp .ge 26, 3) := by decide +kernel
theorem dX0_hold_85 : decode cX0_hold 85 = .ok (.aload_n 3, 1) := by decide +kernel
theorem dX0_hold_86 : decode cX0_hold 86 = .ok (.getfield 97, 3) := by decide +kernel
theorem dX0_hold_89 : decode cX0_hold 89 = .ok (.iload 4, 2) := by decide +kernel
theorem dX0_hold_91 : decode cX0_hold 91 = .ok (.iaload, 1) := by decide +kernel
theorem dX0_hold_92 : decode cX0_hold 92 = .ok (.ifCond .gt 10, 3) := by decide +kernel
theorem dX0_hold_95 : decode cX0_hold 95 = .ok (.aload_n 1, 1) := by decide +kernel
theorem dX0_hold_96 : decode cX0_hold 96 = .ok (.iload 4, 2) := by decide +kernel
theorem dX0_hold_98 : decode cX0_hold 98 = .ok (.iconst 0, 1) := by decide +kernel
theorem dX0_hold_99 : decode cX0_hold 99 = .ok (.invokevirtual 100, 3) := by decide +kernel
theorem dX0_hold_102 : decode cX0_hold 102 = .ok (.iinc 4 1, 3) := by decide +kernel
theorem dX0_hold_105 : decode cX0_hold 105 = .ok (.goto (-29), 3) := by decide +kernel
theorem dX0_hold_108 : decode cX0_hold 108 = .ok (.aload_n 3, 1) := by decide +kernel
theorem dX0_hold_109 : decode cX0_hold 109 = .ok (.invokevirtual 104, 3) := by decide +kernel
theorem dX0_hold_112 : decode cX0_hold 112 = .ok (.return_, 1) := by decide +kernel
theorem dX0_reasonForNone_0 : decode cX0_reasonForNone 0 = .ok (.aload_n 0, 1) := by decide +kernel
theorem dX0_reasonForNone_1 : decode cX0_reasonForNone 1 = .ok (.getfield 67, 3) := by decide +kernel
theorem dX0_reasonForNone_4 : decode cX0_reasonForNone 4 = .ok (.ifCond .le 5, 3) := by decide +kernel
theorem dX0_reasonForNone_7 : decode cX0_reasonForNone 7 = .ok (.iconst 0, 1) := by decide +kernel
theorem dX0_reasonForNone_8 : decode cX0_reasonForNone 8 = .ok (.ireturn, 1) := by decide +kernel
theorem dX0_reasonForNone_9 : decode cX0_reasonForNone 9 = .ok (.aload_n 0, 1) := by decide +kernel
theorem dX0_reasonForNone_10 : decode cX0_reasonForNone 10 = .ok (.getfield 50, 3) := by decide +kernel
theorem dX0_reasonForNone_13 : decode cX0_reasonForNone 13 = .ok (.ifCond .ne 7, 3) := by decide +kernel
theorem dX0_reasonForNone_16 : decode cX0_reasonForNone 16 = .ok (.iconst 1, 1) := by decide +kernel
theorem dX0_reasonForNone_17 : decode cX0_reasonForNone 17 = .ok (.goto 15, 3) := by decide +kernel
theorem dX0_reasonForNone_20 : decode cX0_reasonForNone 20 = .ok (.aload_n 0, 1) := by decide +kernel
theorem dX0_reasonForNone_21 : decode cX0_reasonForNone 21 = .ok (.getfield 24, 3) := by decide +kernel
theorem dX0_reasonForNone_24 : decode cX0_reasonForNone 24 = .ok (.ifCond .ne 7, 3) := by decide +kernel
theorem dX0_reasonForNone_27 : decode cX0_reasonForNone 27 = .ok (.iconst 2, 1) := by decide +kernel
theorem dX0_reasonForNone_28 : decode cX0_reasonForNone 28 = .ok (.goto 4, 3) := by decide +kernel
theorem dX0_reasonForNone_31 : decode cX0_reasonForNone 31 = .ok (.iconst 3, 1) := by decide +kernel
theorem dX0_reasonForNone_32 : decode cX0_reasonForNone 32 = .ok (.ireturn, 1) := by decide +kernel
theorem dX0_surplus_0 : decode cX0_surplus 0 = .ok (.aload_n 0, 1) := by decide +kernel
theorem dX0_surplus_1 : decode cX0_surplus 1 = .ok (.getfield 15, 3) := by decide +kernel
theorem dX0_surplus_4 : decode cX0_surplus 4 = .ok (.aload_n 0, 1) := by decide +kernel
theorem dX0_surplus_5 : decode cX0_surplus 5 = .ok (.getfield 67, 3) := by decide +kernel
theorem dX0_surplus_8 : decode cX0_surplus 8 = .ok (.invokestatic 105, 3) := by decide +kernel
theorem dX0_surplus_11 : decode cX0_surplus 11 = .ok (.aload_n 0, 1) := by decide +kernel
theorem dX0_surplus_12 : decode cX0_surplus 12 = .ok (.getfield 21, 3) := by decide +kernel
theorem dX0_surplus_15 : decode cX0_surplus 15 = .ok (.aload_n 0, 1) := by decide +kernel
theorem dX0_surplus_16 : decode cX0_surplus 16 = .ok (.getfield 67, 3) := by decide +kernel
theorem dX0_surplus_19 : decode cX0_surplus 19 = .ok (.invokestatic 105, 3) := by decide +kernel
theorem dX0_surplus_22 : decode cX0_surplus 22 = .ok (.isub, 1) := by decide +kernel
theorem dX0_surplus_23 : decode cX0_surplus 23 = .ok (.ireturn, 1) := by decide +kernel
theorem dX0_sell_0 : decode cX0_sell 0 = .ok (.iload_n 3, 1) := by decide +kernel
theorem dX0_sell_1 : decode cX0_sell 1 = .ok (.ifCond .lt 14, 3) := by decide +kernel
theorem dX0_sell_4 : decode cX0_sell 4 = .ok (.iload_n 3, 1) := by decide +kernel
theorem dX0_sell_5 : decode cX0_sell 5 = .ok (.aload_n 1, 1) := by decide +kernel
theorem dX0_sell_6 : decode cX0_sell 6 = .ok (.getfield 53, 3) := by decide +kernel
theorem dX0_sell_9 : decode cX0_sell 9 = .ok (.getfield 57, 3) := by decide +kernel
theorem dX0_sell_12 : decode cX0_sell 12 = .ok (.if_icmp .lt 4, 3) := by decide +kernel
theorem dX0_sell_15 : decode cX0_sell 15 = .ok (.return_, 1) := by decide +kernel
theorem dX0_sell_16 : decode cX0_sell 16 = .ok (.aload_n 1, 1) := by decide +kernel
theorem dX0_sell_17 : decode cX0_sell 17 = .ok (.getfield 28, 3) := by decide +kernel
theorem dX0_sell_20 : decode cX0_sell 20 = .ok (.iload_n 2, 1) := by decide +kernel
theorem dX0_sell_21 : decode cX0_sell 21 = .ok (.aload_n 0, 1) := by decide +kernel
theorem dX0_sell_22 : decode cX0_sell 22 = .ok (.getfield 74, 3) := by decide +kernel
theorem dX0_sell_25 : decode cX0_sell 25 = .ok (.invokevirtual 109, 3) := by decide +kernel
theorem dX0_sell_28 : decode cX0_sell 28 = .ok (.aload_n 1, 1) := by decide +kernel
theorem dX0_sell_29 : decode cX0_sell 29 = .ok (.getfield 112, 3) := by decide +kernel
theorem dX0_sell_32 : decode cX0_sell 32 = .ok (.aload_n 1, 1) := by decide +kernel
theorem dX0_sell_33 : decode cX0_sell 33 = .ok (.getfield 53, 3) := by decide +kernel
theorem dX0_sell_36 : decode cX0_sell 36 = .ok (.getfield 116, 3) := by decide +kernel
theorem dX0_sell_39 : decode cX0_sell 39 = .ok (.iload_n 3, 1) := by decide +kernel
theorem dX0_sell_40 : decode cX0_sell 40 = .ok (.iaload, 1) := by decide +kernel
theorem dX0_sell_41 : decode cX0_sell 41 = .ok (.aload_n 0, 1) := by decide +kernel
theorem dX0_sell_42 : decode cX0_sell 42 = .ok (.getfield 74, 3) := by decide +kernel
theorem dX0_sell_45 : decode cX0_sell 45 = .ok (.invokevirtual 119, 3) := by decide +kernel
theorem dX0_sell_48 : decode cX0_sell 48 = .ok (.aload_n 1, 1) := by decide +kernel
theorem dX0_sell_49 : decode cX0_sell 49 = .ok (.getfield 53, 3) := by decide +kernel
theorem dX0_sell_52 : decode cX0_sell 52 = .ok (.getfield 60, 3) := by decide +kernel
theorem dX0_sell_55 : decode cX0_sell 55 = .ok (.iload_n 3, 1) := by decide +kernel
theorem dX0_sell_56 : decode cX0_sell 56 = .ok (.iconst (-1), 1) := by decide +kernel
theorem dX0_sell_57 : decode cX0_sell 57 = .ok (.iastore, 1) := by decide +kernel
theorem dX0_sell_58 : decode cX0_sell 58 = .ok (.aload_n 1, 1) := by decide +kernel
theorem dX0_sell_59 : decode cX0_sell 59 = .ok (.dup, 1) := by decide +kernel
theorem dX0_sell_60 : decode cX0_sell 60 = .ok (.getfield 124, 3) := by decide +kernel
theorem dX0_sell_63 : decode cX0_sell 63 = .ok (.iconst 1, 1) := by decide +kernel
theorem dX0_sell_64 : decode cX0_sell 64 = .ok (.iadd, 1) := by decide +kernel
theorem dX0_sell_65 : decode cX0_sell 65 = .ok (.putfield 124, 3) := by decide +kernel
theorem dX0_sell_68 : decode cX0_sell 68 = .ok (.aload_n 1, 1) := by decide +kernel
theorem dX0_sell_69 : decode cX0_sell 69 = .ok (.dup, 1) := by decide +kernel
theorem dX0_sell_70 : decode cX0_sell 70 = .ok (.getfield 127, 3) := by decide +kernel
theorem dX0_sell_73 : decode cX0_sell 73 = .ok (.iload 4, 2) := by decide +kernel
theorem dX0_sell_75 : decode cX0_sell 75 = .ok (.ifCond .ne 7, 3) := by decide +kernel
theorem dX0_sell_78 : decode cX0_sell 78 = .ok (.iconst 1, 1) := by decide +kernel
theorem dX0_sell_79 : decode cX0_sell 79 = .ok (.goto 14, 3) := by decide +kernel
theorem dX0_sell_82 : decode cX0_sell 82 = .ok (.iload 4, 2) := by decide +kernel
theorem dX0_sell_84 : decode cX0_sell 84 = .ok (.iconst 1, 1) := by decide +kernel
theorem dX0_sell_85 : decode cX0_sell 85 = .ok (.if_icmp .ne 7, 3) := by decide +kernel
theorem dX0_sell_88 : decode cX0_sell 88 = .ok (.iconst 2, 1) := by decide +kernel
theorem dX0_sell_89 : decode cX0_sell 89 = .ok (.goto 4, 3) := by decide +kernel
theorem dX0_sell_92 : decode cX0_sell 92 = .ok (.iconst 3, 1) := by decide +kernel
theorem dX0_sell_93 : decode cX0_sell 93 = .ok (.iadd, 1) := by decide +kernel
theorem dX0_sell_94 : decode cX0_sell 94 = .ok (.putfield 127, 3) := by decide +kernel
theorem dX0_sell_97 : decode cX0_sell 97 = .ok (.return_, 1) := by decide +kernel
theorem dX0_priceOfTrades_0 : decode cX0_priceOfTrades 0 = .ok (.iconst 1, 1) := by decide +kernel
theorem dX0_priceOfTrades_1 : decode cX0_priceOfTrades 1 = .ok (.istore_n 1, 1) := by decide +kernel
theorem dX0_priceOfTrades_2 : decode cX0_priceOfTrades 2 = .ok (.aload_n 0, 1) := by decide +kernel
theorem dX0_priceOfTrades_3 : decode cX0_priceOfTrades 3 = .ok (.getfield 67, 3) := by decide +kernel
theorem dX0_priceOfTrades_6 : decode cX0_priceOfTrades 6 = .ok (.ifCond .le 41, 3) := by decide +kernel
theorem dX0_priceOfTrades_9 : decode cX0_priceOfTrades 9 = .ok (.aload_n 0, 1) := by decide +kernel
theorem dX0_priceOfTrades_10 : decode cX0_priceOfTrades 10 = .ok (.getfield 67, 3) := by decide +kernel
theorem dX0_priceOfTrades_13 : decode cX0_priceOfTrades 13 = .ok (.aload_n 0, 1) := by decide +kernel
theorem dX0_priceOfTrades_14 : decode cX0_priceOfTrades 14 = .ok (.getfield 50, 3) := by decide +kernel
theorem dX0_priceOfTrades_17 : decode cX0_priceOfTrades 17 = .ok (.if_icmp .gt 30, 3) := by decide +kernel
theorem dX0_priceOfTrades_20 : decode cX0_priceOfTrades 20 = .ok (.aload_n 0, 1) := by decide +kernel
theorem dX0_priceOfTrades_21 : decode cX0_priceOfTrades 21 = .ok (.getfield 21, 3) := by decide +kernel
theorem dX0_priceOfTrades_24 : decode cX0_priceOfTrades 24 = .ok (.aload_n 0, 1) := by decide +kernel
theorem dX0_priceOfTrades_25 : decode cX0_priceOfTrades 25 = .ok (.getfield 67, 3) := by decide +kernel
theorem dX0_priceOfTrades_28 : decode cX0_priceOfTrades 28 = .ok (.iconst 1, 1) := by decide +kernel
theorem dX0_priceOfTrades_29 : decode cX0_priceOfTrades 29 = .ok (.isub, 1) := by decide +kernel
theorem dX0_priceOfTrades_30 : decode cX0_priceOfTrades 30 = .ok (.iaload, 1) := by decide +kernel
theorem dX0_priceOfTrades_31 : decode cX0_priceOfTrades 31 = .ok (.iload_n 1, 1) := by decide +kernel
theorem dX0_priceOfTrades_32 : decode cX0_priceOfTrades 32 = .ok (.if_icmp .le 15, 3) := by decide +kernel
theorem dX0_priceOfTrades_35 : decode cX0_priceOfTrades 35 = .ok (.aload_n 0, 1) := by decide +kernel
theorem dX0_priceOfTrades_36 : decode cX0_priceOfTrades 36 = .ok (.getfield 21, 3) := by decide +kernel
theorem dX0_priceOfTrades_39 : decode cX0_priceOfTrades 39 = .ok (.aload_n 0, 1) := by decide +kernel
theorem dX0_priceOfTrades_40 : decode cX0_priceOfTrades 40 = .ok (.getfield 67, 3) := by decide +kernel
theorem dX0_priceOfTrades_43 : decode cX0_priceOfTrades 43 = .ok (.iconst 1, 1) := by decide +kernel
theorem dX0_priceOfTrades_44 : decode cX0_priceOfTrades 44 = .ok (.isub, 1) := by decide +kernel
theorem dX0_priceOfTrades_45 : decode cX0_priceOfTrades 45 = .ok (.iaload, 1) := by decide +kernel
theorem dX0_priceOfTrades_46 : decode cX0_priceOfTrades 46 = .ok (.istore_n 1, 1) := by decide +kernel
theorem dX0_priceOfTrades_47 : decode cX0_priceOfTrades 47 = .ok (.aload_n 0, 1) := by decide +kernel
theorem dX0_priceOfTrades_48 : decode cX0_priceOfTrades 48 = .ok (.getfield 67, 3) := by decide +kernel
theorem dX0_priceOfTrades_51 : decode cX0_priceOfTrades 51 = .ok (.aload_n 0, 1) := by decide +kernel
theorem dX0_priceOfTrades_52 : decode cX0_priceOfTrades 52 = .ok (.getfield 24, 3) := by decide +kernel
theorem dX0_priceOfTrades_55 : decode cX0_priceOfTrades 55 = .ok (.if_icmp .ge 26, 3) := by decide +kernel
theorem dX0_priceOfTrades_58 : decode cX0_priceOfTrades 58 = .ok (.aload_n 0, 1) := by decide +kernel
theorem dX0_priceOfTrades_59 : decode cX0_priceOfTrades 59 = .ok (.getfield 15, 3) := by decide +kernel
theorem dX0_priceOfTrades_62 : decode cX0_priceOfTrades 62 = .ok (.aload_n 0, 1) := by decide +kernel
theorem dX0_priceOfTrades_63 : decode cX0_priceOfTrades 63 = .ok (.getfield 67, 3) := by decide +kernel
theorem dX0_priceOfTrades_66 : decode cX0_priceOfTrades 66 = .ok (.iaload, 1) := by decide +kernel
theorem dX0_priceOfTrades_67 : decode cX0_priceOfTrades 67 = .ok (.iload_n 1, 1) := by decide +kernel
theorem dX0_priceOfTrades_68 : decode cX0_priceOfTrades 68 = .ok (.if_icmp .le 13, 3) := by decide +kernel
theorem dX0_priceOfTrades_71 : decode cX0_priceOfTrades 71 = .ok (.aload_n 0, 1) := by decide +kernel
theorem dX0_priceOfTrades_72 : decode cX0_priceOfTrades 72 = .ok (.getfield 15, 3) := by decide +kernel
theorem dX0_priceOfTrades_75 : decode cX0_priceOfTrades 75 = .ok (.aload_n 0, 1) := by decide +kernel
theorem dX0_priceOfTrades_76 : decode cX0_priceOfTrades 76 = .ok (.getfield 67, 3) := by decide +kernel
theorem dX0_priceOfTrades_79 : decode cX0_priceOfTrades 79 = .ok (.iaload, 1) := by decide +kernel
theorem dX0_priceOfTrades_80 : decode cX0_priceOfTrades 80 = .ok (.istore_n 1, 1) := by decide +kernel
theorem dX0_priceOfTrades_81 : decode cX0_priceOfTrades 81 = .ok (.iload_n 1, 1) := by decide +kernel
theorem dX0_priceOfTrades_82 : decode cX0_priceOfTrades 82 = .ok (.ireturn, 1) := by decide +kernel
theorem dX0_insertBids_0 : decode cX0_insertBids 0 = .ok (.iconst 0, 1) := by decide +kernel
theorem dX0_insertBids_1 : decode cX0_insertBids 1 = .ok (.istore 4, 2) := by decide +kernel
theorem dX0_insertBids_3 : decode cX0_insertBids 3 = .ok (.iload 4, 2) := by decide +kernel
theorem dX0_insertBids_5 : decode cX0_insertBids 5 = .ok (.iload_n 3, 1) := by decide +kernel
theorem dX0_insertBids_6 : decode cX0_insertBids 6 = .ok (.if_icmp .ge 106, 3) := by decide +kernel
theorem dX0_insertBids_9 : decode cX0_insertBids 9 = .ok (.aload_n 0, 1) := by decide +kernel
theorem dX0_insertBids_10 : decode cX0_insertBids 10 = .ok (.getfield 24, 3) := by decide +kernel
theorem dX0_insertBids_13 : decode cX0_insertBids 13 = .ok (.bipush 90, 2) := by decide +kernel
theorem dX0_insertBids_15 : decode cX0_insertBids 15 = .ok (.if_icmp .ge 97, 3) := by decide +kernel
theorem dX0_insertBids_18 : decode cX0_insertBids 18 = .ok (.aload_n 0, 1) := by decide +kernel
theorem dX0_insertBids_19 : decode cX0_insertBids 19 = .ok (.getfield 24, 3) := by decide +kernel
theorem dX0_insertBids_22 : decode cX0_insertBids 22 = .ok (.istore 5, 2) := by decide +kernel
theorem dX0_insertBids_24 : decode cX0_insertBids 24 = .ok (.iload 5, 2) := by decide +kernel
theorem dX0_insertBids_26 : decode cX0_insertBids 26 = .ok (.ifCond .le 54, 3) := by decide +kernel
theorem dX0_insertBids_29 : decode cX0_insertBids 29 = .ok (.aload_n 0, 1) := by decide +kernel
theorem dX0_insertBids_30 : decode cX0_insertBids 30 = .ok (.getfield 15, 3) := by decide +kernel
theorem dX0_insertBids_33 : decode cX0_insertBids 33 = .ok (.iload 5, 2) := by decide +kernel
theorem dX0_insertBids_35 : decode cX0_insertBids 35 = .ok (.iconst 1, 1) := by decide +kernel
theorem dX0_insertBids_36 : decode cX0_insertBids 36 = .ok (.isub, 1) := by decide +kernel
theorem dX0_insertBids_37 : decode cX0_insertBids 37 = .ok (.iaload, 1) := by decide +kernel
theorem dX0_insertBids_38 : decode cX0_insertBids 38 = .ok (.iload_n 2, 1) := by decide +kernel
theorem dX0_insertBids_39 : decode cX0_insertBids 39 = .ok (.if_icmp .ge 41, 3) := by decide +kernel
theorem dX0_insertBids_42 : decode cX0_insertBids 42 = .ok (.aload_n 0, 1) := by decide +kernel
theorem dX0_insertBids_43 : decode cX0_insertBids 43 = .ok (.getfield 15, 3) := by decide +kernel
theorem dX0_insertBids_46 : decode cX0_insertBids 46 = .ok (.iload 5, 2) := by decide +kernel
theorem dX0_insertBids_48 : decode cX0_insertBids 48 = .ok (.aload_n 0, 1) := by decide +kernel
theorem dX0_insertBids_49 : decode cX0_insertBids 49 = .ok (.getfield 15, 3) := by decide +kernel
theorem dX0_insertBids_52 : decode cX0_insertBids 52 = .ok (.iload 5, 2) := by decide +kernel
theorem dX0_insertBids_54 : decode cX0_insertBids 54 = .ok (.iconst 1, 1) := by decide +kernel
theorem dX0_insertBids_55 : decode cX0_insertBids 55 = .ok (.isub, 1) := by decide +kernel
theorem dX0_insertBids_56 : decode cX0_insertBids 56 = .ok (.iaload, 1) := by decide +kernel
theorem dX0_insertBids_57 : decode cX0_insertBids 57 = .ok (.iastore, 1) := by decide +kernel
theorem dX0_insertBids_58 : decode cX0_insertBids 58 = .ok (.aload_n 0, 1) := by decide +kernel
theorem dX0_insertBids_59 : decode cX0_insertBids 59 = .ok (.getfield 9, 3) := by decide +kernel
theorem dX0_insertBids_62 : decode cX0_insertBids 62 = .ok (.iload 5, 2) := by decide +kernel
theorem dX0_insertBids_64 : decode cX0_insertBids 64 = .ok (.aload_n 0, 1) := by decide +kernel
theorem dX0_insertBids_65 : decode cX0_insertBids 65 = .ok (.getfield 9, 3) := by decide +kernel
theorem dX0_insertBids_68 : decode cX0_insertBids 68 = .ok (.iload 5, 2) := by decide +kernel
theorem dX0_insertBids_70 : decode cX0_insertBids 70 = .ok (.iconst 1, 1) := by decide +kernel
theorem dX0_insertBids_71 : decode cX0_insertBids 71 = .ok (.isub, 1) := by decide +kernel
theorem dX0_insertBids_72 : decode cX0_insertBids 72 = .ok (.iaload, 1) := by decide +kernel
theorem dX0_insertBids_73 : decode cX0_insertBids 73 = .ok (.iastore, 1) := by decide +kernel
theorem dX0_insertBids_74 : decode cX0_insertBids 74 = .ok (.iinc 5 (-1), 3) := by decide +kernel
theorem dX0_insertBids_77 : decode cX0_insertBids 77 = .ok (.goto (-53), 3) := by decide +kernel
theorem dX0_insertBids_80 : decode cX0_insertBids 80 = .ok (.aload_n 0, 1) := by decide +kernel
theorem dX0_insertBids_81 : decode cX0_insertBids 81 = .ok (.getfield 15, 3) := by decide +kernel
theorem dX0_insertBids_84 : decode cX0_insertBids 84 = .ok (.iload 5, 2) := by decide +kernel
theorem dX0_insertBids_86 : decode cX0_insertBids 86 = .ok (.iload_n 2, 1) := by decide +kernel
theorem dX0_insertBids_87 : decode cX0_insertBids 87 = .ok (.iastore, 1) := by decide +kernel
theorem dX0_insertBids_88 : decode cX0_insertBids 88 = .ok (.aload_n 0, 1) := by decide +kernel
theorem dX0_insertBids_89 : decode cX0_insertBids 89 = .ok (.getfield 9, 3) := by decide +kernel
theorem dX0_insertBids_92 : decode cX0_insertBids 92 = .ok (.iload 5, 2) := by decide +kernel
theorem dX0_insertBids_94 : decode cX0_insertBids 94 = .ok (.iload_n 1, 1) := by decide +kernel
theorem dX0_insertBids_95 : decode cX0_insertBids 95 = .ok (.iastore, 1) := by decide +kernel
theorem dX0_insertBids_96 : decode cX0_insertBids 96 = .ok (.aload_n 0, 1) := by decide +kernel
theorem dX0_insertBids_97 : decode cX0_insertBids 97 = .ok (.dup, 1) := by decide +kernel
theorem dX0_insertBids_98 : decode cX0_insertBids 98 = .ok (.getfield 24, 3) := by decide +kernel
theorem dX0_insertBids_101 : decode cX0_insertBids 101 = .ok (.iconst 1, 1) := by decide +kernel
theorem dX0_insertBids_102 : decode cX0_insertBids 102 = .ok (.iadd, 1) := by decide +kernel
theorem dX0_insertBids_103 : decode cX0_insertBids 103 = .ok (.putfield 24, 3) := by decide +kernel
theorem dX0_insertBids_106 : decode cX0_insertBids 106 = .ok (.iinc 4 1, 3) := by decide +kernel
theorem dX0_insertBids_109 : decode cX0_insertBids 109 = .ok (.goto (-106), 3) := by decide +kernel
theorem dX0_insertBids_112 : decode cX0_insertBids 112 = .ok (.return_, 1) := by decide +kernel
theorem dX1_init_0 : decode cX1_init 0 = .ok (.aload_n 0, 1) := by decide +kernel
theorem dX1_init_1 : decode cX1_init 1 = .ok (.invokespecial 3, 3) := by decide +kernel
theorem dX1_init_4 : decode cX1_init 4 = .ok (.aload_n 0, 1) := by decide +kernel
theorem dX1_init_5 : decode cX1_init 5 = .ok (.iconst 4, 1) := by decide +kernel
theorem dX1_init_6 : decode cX1_init 6 = .ok (.newarray .int, 2) := by decide +kernel
theorem dX1_init_8 : decode cX1_init 8 = .ok (.putfield 9, 3) := by decide +kernel
theorem dX1_init_11 : decode cX1_init 11 = .ok (.aload_n 0, 1) := by decide +kernel
theorem dX1_init_12 : decode cX1_init 12 = .ok (.iconst 4, 1) := by decide +kernel
theorem dX1_init_13 : decode cX1_init 13 = .ok (.newarray .int, 2) := by decide +kernel
theorem dX1_init_15 : decode cX1_init 15 = .ok (.putfield 15, 3) := by decide +kernel
theorem dX1_init_18 : decode cX1_init 18 = .ok (.aload_n 0, 1) := by decide +kernel
theorem dX1_init_19 : decode cX1_init 19 = .ok (.iconst 4, 1) := by decide +kernel
theorem dX1_init_20 : decode cX1_init 20 = .ok (.newarray .int, 2) := by decide +kernel
theorem dX1_init_22 : decode cX1_init 22 = .ok (.putfield 18, 3) := by decide +kernel
theorem dX1_init_25 : decode cX1_init 25 = .ok (.aload_n 0, 1) := by decide +kernel
theorem dX1_init_26 : decode cX1_init 26 = .ok (.iconst 4, 1) := by decide +kernel
theorem dX1_init_27 : decode cX1_init 27 = .ok (.newarray .int, 2) := by decide +kernel
theorem dX1_init_29 : decode cX1_init 29 = .ok (.putfield 21, 3) := by decide +kernel
theorem dX1_init_32 : decode cX1_init 32 = .ok (.aload_n 0, 1) := by decide +kernel
theorem dX1_init_33 : decode cX1_init 33 = .ok (.iconst 4, 1) := by decide +kernel
theorem dX1_init_34 : decode cX1_init 34 = .ok (.newarray .int, 2) := by decide +kernel
theorem dX1_init_36 : decode cX1_init 36 = .ok (.putfield 24, 3) := by decide +kernel
theorem dX1_init_39 : decode cX1_init 39 = .ok (.aload_n 0, 1) := by decide +kernel
theorem dX1_init_40 : decode cX1_init 40 = .ok (.iconst 4, 1) := by decide +kernel
theorem dX1_init_41 : decode cX1_init 41 = .ok (.newarray .int, 2) := by decide +kernel
theorem dX1_init_43 : decode cX1_init 43 = .ok (.putfield 27, 3) := by decide +kernel
theorem dX1_init_46 : decode cX1_init 46 = .ok (.return_, 1) := by decide +kernel
theorem dX1_copyFrom_0 : decode cX1_copyFrom 0 = .ok (.aload_n 0, 1) := by decide +kernel
theorem dX1_copyFrom_1 : decode cX1_copyFrom 1 = .ok (.aload_n 1, 1) := by decide +kernel
theorem dX1_copyFrom_2 : decode cX1_copyFrom 2 = .ok (.getfield 30, 3) := by decide +kernel
theorem dX1_copyFrom_5 : decode cX1_copyFrom 5 = .ok (.putfield 30, 3) := by decide +kernel
theorem dX1_copyFrom_8 : decode cX1_copyFrom 8 = .ok (.aload_n 1, 1) := by decide +kernel
theorem dX1_copyFrom_9 : decode cX1_copyFrom 9 = .ok (.getfield 9, 3) := by decide +kernel
theorem dX1_copyFrom_12 : decode cX1_copyFrom 12 = .ok (.aload_n 0, 1) := by decide +kernel
theorem dX1_copyFrom_13 : decode cX1_copyFrom 13 = .ok (.getfield 9, 3) := by decide +kernel
theorem dX1_copyFrom_16 : decode cX1_copyFrom 16 = .ok (.invokestatic 34, 3) := by decide +kernel
theorem dX1_copyFrom_19 : decode cX1_copyFrom 19 = .ok (.aload_n 1, 1) := by decide +kernel
theorem dX1_copyFrom_20 : decode cX1_copyFrom 20 = .ok (.getfield 15, 3) := by decide +kernel
theorem dX1_copyFrom_23 : decode cX1_copyFrom 23 = .ok (.aload_n 0, 1) := by decide +kernel
theorem dX1_copyFrom_24 : decode cX1_copyFrom 24 = .ok (.getfield 15, 3) := by decide +kernel
theorem dX1_copyFrom_27 : decode cX1_copyFrom 27 = .ok (.invokestatic 34, 3) := by decide +kernel
theorem dX1_copyFrom_30 : decode cX1_copyFrom 30 = .ok (.aload_n 1, 1) := by decide +kernel
theorem dX1_copyFrom_31 : decode cX1_copyFrom 31 = .ok (.getfield 18, 3) := by decide +kernel
theorem dX1_copyFrom_34 : decode cX1_copyFrom 34 = .ok (.aload_n 0, 1) := by decide +kernel
theorem dX1_copyFrom_35 : decode cX1_copyFrom 35 = .ok (.getfield 18, 3) := by decide +kernel
theorem dX1_copyFrom_38 : decode cX1_copyFrom 38 = .ok (.invokestatic 34, 3) := by decide +kernel
theorem dX1_copyFrom_41 : decode cX1_copyFrom 41 = .ok (.aload_n 1, 1) := by decide +kernel
theorem dX1_copyFrom_42 : decode cX1_copyFrom 42 = .ok (.getfield 21, 3) := by decide +kernel
theorem dX1_copyFrom_45 : decode cX1_copyFrom 45 = .ok (.aload_n 0, 1) := by decide +kernel
theorem dX1_copyFrom_46 : decode cX1_copyFrom 46 = .ok (.getfield 21, 3) := by decide +kernel
theorem dX1_copyFrom_49 : decode cX1_copyFrom 49 = .ok (.invokestatic 34, 3) := by decide +kernel
theorem dX1_copyFrom_52 : decode cX1_copyFrom 52 = .ok (.aload_n 1, 1) := by decide +kernel
theorem dX1_copyFrom_53 : decode cX1_copyFrom 53 = .ok (.getfield 24, 3) := by decide +kernel
theorem dX1_copyFrom_56 : decode cX1_copyFrom 56 = .ok (.aload_n 0, 1) := by decide +kernel
theorem dX1_copyFrom_57 : decode cX1_copyFrom 57 = .ok (.getfield 24, 3) := by decide +kernel
theorem dX1_copyFrom_60 : decode cX1_copyFrom 60 = .ok (.invokestatic 34, 3) := by decide +kernel
theorem dX1_copyFrom_63 : decode cX1_copyFrom 63 = .ok (.aload_n 1, 1) := by decide +kernel
theorem dX1_copyFrom_64 : decode cX1_copyFrom 64 = .ok (.getfield 27, 3) := by decide +kernel
theorem dX1_copyFrom_67 : decode cX1_copyFrom 67 = .ok (.aload_n 0, 1) := by decide +kernel
theorem dX1_copyFrom_68 : decode cX1_copyFrom 68 = .ok (.getfield 27, 3) := by decide +kernel
theorem dX1_copyFrom_71 : decode cX1_copyFrom 71 = .ok (.invokestatic 34, 3) := by decide +kernel
theorem dX1_copyFrom_74 : decode cX1_copyFrom 74 = .ok (.return_, 1) := by decide +kernel
theorem dX1_add_0 : decode cX1_add 0 = .ok (.aload_n 0, 1) := by decide +kernel
theorem dX1_add_1 : decode cX1_add 1 = .ok (.getfield 30, 3) := by decide +kernel
theorem dX1_add_4 : decode cX1_add 4 = .ok (.iconst 4, 1) := by decide +kernel
theorem dX1_add_5 : decode cX1_add 5 = .ok (.if_icmp .ge 73, 3) := by decide +kernel
theorem dX1_add_8 : decode cX1_add 8 = .ok (.aload_n 0, 1) := by decide +kernel
theorem dX1_add_9 : decode cX1_add 9 = .ok (.getfield 9, 3) := by decide +kernel
theorem dX1_add_12 : decode cX1_add 12 = .ok (.aload_n 0, 1) := by decide +kernel
theorem dX1_add_13 : decode cX1_add 13 = .ok (.getfield 30, 3) := by decide +kernel
theorem dX1_add_16 : decode cX1_add 16 = .ok (.iload_n 1, 1) := by decide +kernel
theorem dX1_add_17 : decode cX1_add 17 = .ok (.iastore, 1) := by decide +kernel
theorem dX1_add_18 : decode cX1_add 18 = .ok (.aload_n 0, 1) := by decide +kernel
theorem dX1_add_19 : decode cX1_add 19 = .ok (.getfield 15, 3) := by decide +kernel
theorem dX1_add_22 : decode cX1_add 22 = .ok (.aload_n 0, 1) := by decide +kernel
theorem dX1_add_23 : decode cX1_add 23 = .ok (.getfield 30, 3) := by decide +kernel
theorem dX1_add_26 : decode cX1_add 26 = .ok (.iload_n 2, 1) := by decide +kernel
theorem dX1_add_27 : decode cX1_add 27 = .ok (.iastore, 1) := by decide +kernel
theorem dX1_add_28 : decode cX1_add 28 = .ok (.aload_n 0, 1) := by decide +kernel
theorem dX1_add_29 : decode cX1_add 29 = .ok (.getfield 18, 3) := by decide +kernel
theorem dX1_add_32 : decode cX1_add 32 = .ok (.aload_n 0, 1) := by decide +kernel
theorem dX1_add_33 : decode cX1_add 33 = .ok (.getfield 30, 3) := by decide +kernel
theorem dX1_add_36 : decode cX1_add 36 = .ok (.iload_n 3, 1) := by decide +kernel
theorem dX1_add_37 : decode cX1_add 37 = .ok (.iastore, 1) := by decide +kernel
theorem dX1_add_38 : decode cX1_add 38 = .ok (.aload_n 0, 1) := by decide +kernel
theorem dX1_add_39 : decode cX1_add 39 = .ok (.getfield 21, 3) := by decide +kernel
theorem dX1_add_42 : decode cX1_add 42 = .ok (.aload_n 0, 1) := by decide +kernel
theorem dX1_add_43 : decode cX1_add 43 = .ok (.getfield 30, 3) := by decide +kernel
theorem dX1_add_46 : decode cX1_add 46 = .ok (.iconst (-1), 1) := by decide +kernel
theorem dX1_add_47 : decode cX1_add 47 = .ok (.iastore, 1) := by decide +kernel
theorem dX1_add_48 : decode cX1_add 48 = .ok (.aload_n 0, 1) := by decide +kernel
theorem dX1_add_49 : decode cX1_add 49 = .ok (.getfield 24, 3) := by decide +kernel
theorem dX1_add_52 : decode cX1_add 52 = .ok (.aload_n 0, 1) := by decide +kernel
theorem dX1_add_53 : decode cX1_add 53 = .ok (.getfield 30, 3) := by decide +kernel
theorem dX1_add_56 : decode cX1_add 56 = .ok (.iconst 0, 1) := by decide +kernel
theorem dX1_add_57 : decode cX1_add 57 = .ok (.iastore, 1) := by decide +kernel
theorem dX1_add_58 : decode cX1_add 58 = .ok (.aload_n 0, 1) := by decide +kernel
theorem dX1_add_59 : decode cX1_add 59 = .ok (.getfield 27, 3) := by decide +kernel
theorem dX1_add_62 : decode cX1_add 62 = .ok (.aload_n 0, 1) := by decide +kernel
theorem dX1_add_63 : decode cX1_add 63 = .ok (.getfield 30, 3) := by decide +kernel
theorem dX1_add_66 : decode cX1_add 66 = .ok (.iconst 0, 1) := by decide +kernel
theorem dX1_add_67 : decode cX1_add 67 = .ok (.iastore, 1) := by decide +kernel
theorem dX1_add_68 : decode cX1_add 68 = .ok (.aload_n 0, 1) := by decide +kernel
theorem dX1_add_69 : decode cX1_add 69 = .ok (.dup, 1) := by decide +kernel
theorem dX1_add_70 : decode cX1_add 70 = .ok (.getfield 30, 3) := by decide +kernel
theorem dX1_add_73 : decode cX1_add 73 = .ok (.iconst 1, 1) := by decide +kernel
theorem dX1_add_74 : decode cX1_add 74 = .ok (.iadd, 1) := by decide +kernel
theorem dX1_add_75 : decode cX1_add 75 = .ok (.putfield 30, 3) := by decide +kernel
theorem dX1_add_78 : decode cX1_add 78 = .ok (.return_, 1) := by decide +kernel
theorem dX1_begin_0 : decode cX1_begin 0 = .ok (.iload_n 1, 1) := by decide +kernel
theorem dX1_begin_1 : decode cX1_begin 1 = .ok (.ifCond .lt 30, 3) := by decide +kernel
theorem dX1_begin_4 : decode cX1_begin 4 = .ok (.iload_n 1, 1) := by decide +kernel
theorem dX1_begin_5 : decode cX1_begin 5 = .ok (.aload_n 0, 1) := by decide +kernel
theorem dX1_begin_6 : decode cX1_begin 6 = .ok (.getfield 30, 3) := by decide +kernel
theorem dX1_begin_9 : decode cX1_begin 9 = .ok (.if_icmp .ge 22, 3) := by decide +kernel
theorem dX1_begin_12 : decode cX1_begin 12 = .ok (.aload_n 0, 1) := by decide +kernel
theorem dX1_begin_13 : decode cX1_begin 13 = .ok (.getfield 21, 3) := by decide +kernel
theorem dX1_begin_16 : decode cX1_begin 16 = .ok (.iload_n 1, 1) := by decide +kernel
theorem dX1_begin_17 : decode cX1_begin 17 = .ok (.iload_n 2, 1) := by decide +kernel
theorem dX1_begin_18 : decode cX1_begin 18 = .ok (.iastore, 1) := by decide +kernel
theorem dX1_begin_19 : decode cX1_begin 19 = .ok (.aload_n 0, 1) := by decide +kernel
theorem dX1_begin_20 : decode cX1_begin 20 = .ok (.getfield 24, 3) := by decide +kernel
theorem dX1_begin_23 : decode cX1_begin 23 = .ok (.iload_n 1, 1) := by decide +kernel
theorem dX1_begin_24 : decode cX1_begin 24 = .ok (.aload_n 0, 1) := by decide +kernel
theorem dX1_begin_25 : decode cX1_begin 25 = .ok (.getfield 18, 3) := by decide +kernel
theorem dX1_begin_28 : decode cX1_begin 28 = .ok (.iload_n 1, 1) := by decide +kernel
theorem dX1_begin_29 : decode cX1_begin 29 = .ok (.iaload, 1) := by decide +kernel
theorem dX1_begin_30 : decode cX1_begin 30 = .ok (.iastore, 1) := by decide +kernel
theorem dX1_begin_31 : decode cX1_begin 31 = .ok (.return_, 1) := by decide +kernel
theorem dX1_rest_0 : decode cX1_rest 0 = .ok (.iload_n 1, 1) := by decide +kernel
theorem dX1_rest_1 : decode cX1_rest 1 = .ok (.ifCond .lt 25, 3) := by decide +kernel
theorem dX1_rest_4 : decode cX1_rest 4 = .ok (.iload_n 1, 1) := by decide +kernel
theorem dX1_rest_5 : decode cX1_rest 5 = .ok (.aload_n 0, 1) := by decide +kernel
theorem dX1_rest_6 : decode cX1_rest 6 = .ok (.getfield 30, 3) := by decide +kernel
theorem dX1_rest_9 : decode cX1_rest 9 = .ok (.if_icmp .ge 17, 3) := by decide +kernel
theorem dX1_rest_12 : decode cX1_rest 12 = .ok (.aload_n 0, 1) := by decide +kernel
theorem dX1_rest_13 : decode cX1_rest 13 = .ok (.getfield 21, 3) := by decide +kernel
theorem dX1_rest_16 : decode cX1_rest 16 = .ok (.iload_n 1, 1) := by decide +kernel
theorem dX1_rest_17 : decode cX1_rest 17 = .ok (.iconst (-1), 1) := by decide +kernel
theorem dX1_rest_18 : decode cX1_rest 18 = .ok (.iastore, 1) := by decide +kernel
theorem dX1_rest_19 : decode cX1_rest 19 = .ok (.aload_n 0, 1) := by decide +kernel
theorem dX1_rest_20 : decode cX1_rest 20 = .ok (.getfield 24, 3) := by decide +kernel
theorem dX1_rest_23 : decode cX1_rest 23 = .ok (.iload_n 1, 1) := by decide +kernel
theorem dX1_rest_24 : decode cX1_rest 24 = .ok (.iconst 0, 1) := by decide +kernel
theorem dX1_rest_25 : decode cX1_rest 25 = .ok (.iastore, 1) := by decide +kernel
theorem dX1_rest_26 : decode cX1_rest 26 = .ok (.return_, 1) := by decide +kernel
theorem dX1_earn_0 : decode cX1_earn 0 = .ok (.iload_n 1, 1) := by decide +kernel
theorem dX1_earn_1 : decode cX1_earn 1 = .ok (.ifCond .lt 21, 3) := by decide +kernel
theorem dX1_earn_4 : decode cX1_earn 4 = .ok (.iload_n 1, 1) := by decide +kernel
theorem dX1_earn_5 : decode cX1_earn 5 = .ok (.aload_n 0, 1) := by decide +kernel
theorem dX1_earn_6 : decode cX1_earn 6 = .ok (.getfield 30, 3) := by decide +kernel
theorem dX1_earn_9 : decode cX1_earn 9 = .ok (.if_icmp .ge 13, 3) := by decide +kernel
theorem dX1_earn_12 : decode cX1_earn 12 = .ok (.aload_n 0, 1) := by decide +kernel
theorem dX1_earn_13 : decode cX1_earn 13 = .ok (.getfield 27, 3) := by decide +kernel
theorem dX1_earn_16 : decode cX1_earn 16 = .ok (.iload_n 1, 1) := by decide +kernel
theorem dX1_earn_17 : decode cX1_earn 17 = .ok (.dup2, 1) := by decide +kernel
theorem dX1_earn_18 : decode cX1_earn 18 = .ok (.iaload, 1) := by decide +kernel
theorem dX1_earn_19 : decode cX1_earn 19 = .ok (.iload_n 2, 1) := by decide +kernel
theorem dX1_earn_20 : decode cX1_earn 20 = .ok (.iadd, 1) := by decide +kernel
theorem dX1_earn_21 : decode cX1_earn 21 = .ok (.iastore, 1) := by decide +kernel
theorem dX1_earn_22 : decode cX1_earn 22 = .ok (.return_, 1) := by decide +kernel
theorem dX1_loavesInOvens_0 : decode cX1_loavesInOvens 0 = .ok (.iconst 0, 1) := by decide +kernel
theorem dX1_loavesInOvens_1 : decode cX1_loavesInOvens 1 = .ok (.istore_n 1, 1) := by decide +kernel
theorem dX1_loavesInOvens_2 : decode cX1_loavesInOvens 2 = .ok (.iconst 0, 1) := by decide +kernel
theorem dX1_loavesInOvens_3 : decode cX1_loavesInOvens 3 = .ok (.istore_n 2, 1) := by decide +kernel
theorem dX1_loavesInOvens_4 : decode cX1_loavesInOvens 4 = .ok (.iload_n 2, 1) := by decide +kernel
theorem dX1_loavesInOvens_5 : decode cX1_loavesInOvens 5 = .ok (.aload_n 0, 1) := by decide +kernel
theorem dX1_loavesInOvens_6 : decode cX1_loavesInOvens 6 = .ok (.getfield 30, 3) := by decide +kernel
theorem dX1_loavesInOvens_9 : decode cX1_loavesInOvens 9 = .ok (.if_icmp .ge 28, 3) := by decide +kernel
theorem dX1_loavesInOvens_12 : decode cX1_loavesInOvens 12 = .ok (.aload_n 0, 1) := by decide +kernel
theorem dX1_loavesInOvens_13 : decode cX1_loavesInOvens 13 = .ok (.getfield 21, 3) := by decide +kernel
theorem dX1_loavesInOvens_16 : decode cX1_loavesInOvens 16 = .ok (.iload_n 2, 1) := by decide +kernel
theorem dX1_loavesInOvens_17 : decode cX1_loavesInOvens 17 = .ok (.iaload, 1) := by decide +kernel
theorem dX1_loavesInOvens_18 : decode cX1_loavesInOvens 18 = .ok (.iconst (-1), 1) := by decide +kernel
theorem dX1_loavesInOvens_19 : decode cX1_loavesInOvens 19 = .ok (.if_icmp .eq 12, 3) := by decide +kernel
theorem dX1_loavesInOvens_22 : decode cX1_loavesInOvens 22 = .ok (.iload_n 1, 1) := by decide +kernel
theorem dX1_loavesInOvens_23 : decode cX1_loavesInOvens 23 = .ok (.aload_n 0, 1) := by decide +kernel
theorem dX1_loavesInOvens_24 : decode cX1_loavesInOvens 24 = .ok (.getfield 15, 3) := by decide +kernel
theorem dX1_loavesInOvens_27 : decode cX1_loavesInOvens 27 = .ok (.iload_n 2, 1) := by decide +kernel
theorem dX1_loavesInOvens_28 : decode cX1_loavesInOvens 28 = .ok (.iaload, 1) := by decide +kernel
theorem dX1_loavesInOvens_29 : decode cX1_loavesInOvens 29 = .ok (.iadd, 1) := by decide +kernel
theorem dX1_loavesInOvens_30 : decode cX1_loavesInOvens 30 = .ok (.istore_n 1, 1) := by decide +kernel
theorem dX1_loavesInOvens_31 : decode cX1_loavesInOvens 31 = .ok (.iinc 2 1, 3) := by decide +kernel
theorem dX1_loavesInOvens_34 : decode cX1_loavesInOvens 34 = .ok (.goto (-30), 3) := by decide +kernel
theorem dX1_loavesInOvens_37 : decode cX1_loavesInOvens 37 = .ok (.iload_n 1, 1) := by decide +kernel
theorem dX1_loavesInOvens_38 : decode cX1_loavesInOvens 38 = .ok (.ireturn, 1) := by decide +kernel
theorem dX2_init_0 : decode cX2_init 0 = .ok (.aload_n 0, 1) := by decide +kernel
theorem dX2_init_1 : decode cX2_init 1 = .ok (.invokespecial 3, 3) := by decide +kernel
theorem dX2_init_4 : decode cX2_init 4 = .ok (.aload_n 0, 1) := by decide +kernel
theorem dX2_init_5 : decode cX2_init 5 = .ok (.bipush 10, 2) := by decide +kernel
theorem dX2_init_7 : decode cX2_init 7 = .ok (.newarray .int, 2) := by decide +kernel
theorem dX2_init_9 : decode cX2_init 9 = .ok (.putfield 9, 3) := by decide +kernel
theorem dX2_init_12 : decode cX2_init 12 = .ok (.aload_n 0, 1) := by decide +kernel
theorem dX2_init_13 : decode cX2_init 13 = .ok (.bipush 10, 2) := by decide +kernel
theorem dX2_init_15 : decode cX2_init 15 = .ok (.newarray .int, 2) := by decide +kernel
theorem dX2_init_17 : decode cX2_init 17 = .ok (.putfield 15, 3) := by decide +kernel
theorem dX2_init_20 : decode cX2_init 20 = .ok (.aload_n 0, 1) := by decide +kernel
theorem dX2_init_21 : decode cX2_init 21 = .ok (.bipush 10, 2) := by decide +kernel
theorem dX2_init_23 : decode cX2_init 23 = .ok (.newarray .int, 2) := by decide +kernel
theorem dX2_init_25 : decode cX2_init 25 = .ok (.putfield 18, 3) := by decide +kernel
theorem dX2_init_28 : decode cX2_init 28 = .ok (.aload_n 0, 1) := by decide +kernel
theorem dX2_init_29 : decode cX2_init 29 = .ok (.bipush 10, 2) := by decide +kernel
theorem dX2_init_31 : decode cX2_init 31 = .ok (.newarray .int, 2) := by decide +kernel
theorem dX2_init_33 : decode cX2_init 33 = .ok (.putfield 21, 3) := by decide +kernel
theorem dX2_init_36 : decode cX2_init 36 = .ok (.aload_n 0, 1) := by decide +kernel
theorem dX2_init_37 : decode cX2_init 37 = .ok (.bipush 10, 2) := by decide +kernel
theorem dX2_init_39 : decode cX2_init 39 = .ok (.newarray .int, 2) := by decide +kernel
theorem dX2_init_41 : decode cX2_init 41 = .ok (.putfield 24, 3) := by decide +kernel
theorem dX2_init_44 : decode cX2_init 44 = .ok (.aload_n 0, 1) := by decide +kernel
theorem dX2_init_45 : decode cX2_init 45 = .ok (.bipush 10, 2) := by decide +kernel
theorem dX2_init_47 : decode cX2_init 47 = .ok (.newarray .int, 2) := by decide +kernel
theorem dX2_init_49 : decode cX2_init 49 = .ok (.putfield 27, 3) := by decide +kernel
theorem dX2_init_52 : decode cX2_init 52 = .ok (.aload_n 0, 1) := by decide +kernel
theorem dX2_init_53 : decode cX2_init 53 = .ok (.bipush 10, 2) := by decide +kernel
theorem dX2_init_55 : decode cX2_init 55 = .ok (.newarray .int, 2) := by decide +kernel
theorem dX2_init_57 : decode cX2_init 57 = .ok (.putfield 30, 3) := by decide +kernel
theorem dX2_init_60 : decode cX2_init 60 = .ok (.return_, 1) := by decide +kernel
theorem dX2_copyFrom_0 : decode cX2_copyFrom 0 = .ok (.aload_n 0, 1) := by decide +kernel
theorem dX2_copyFrom_1 : decode cX2_copyFrom 1 = .ok (.aload_n 1, 1) := by decide +kernel
theorem dX2_copyFrom_2 : decode cX2_copyFrom 2 = .ok (.getfield 33, 3) := by decide +kernel
theorem dX2_copyFrom_5 : decode cX2_copyFrom 5 = .ok (.putfield 33, 3) := by decide +kernel
theorem dX2_copyFrom_8 : decode cX2_copyFrom 8 = .ok (.aload_n 0, 1) := by decide +kernel
theorem dX2_copyFrom_9 : decode cX2_copyFrom 9 = .ok (.aload_n 1, 1) := by decide +kernel
theorem dX2_copyFrom_10 : decode cX2_copyFrom 10 = .ok (.getfield 37, 3) := by decide +kernel
theorem dX2_copyFrom_13 : decode cX2_copyFrom 13 = .ok (.putfield 37, 3) := by decide +kernel
theorem dX2_copyFrom_16 : decode cX2_copyFrom 16 = .ok (.aload_n 1, 1) := by decide +kernel
theorem dX2_copyFrom_17 : decode cX2_copyFrom 17 = .ok (.getfield 9, 3) := by decide +kernel
theorem dX2_copyFrom_20 : decode cX2_copyFrom 20 = .ok (.aload_n 0, 1) := by decide +kernel
theorem dX2_copyFrom_21 : decode cX2_copyFrom 21 = .ok (.getfield 9, 3) := by decide +kernel
theorem dX2_copyFrom_24 : decode cX2_copyFrom 24 = .ok (.invokestatic 40, 3) := by decide +kernel
theorem dX2_copyFrom_27 : decode cX2_copyFrom 27 = .ok (.aload_n 1, 1) := by decide +kernel
theorem dX2_copyFrom_28 : decode cX2_copyFrom 28 = .ok (.getfield 15, 3) := by decide +kernel
theorem dX2_copyFrom_31 : decode cX2_copyFrom 31 = .ok (.aload_n 0, 1) := by decide +kernel
theorem dX2_copyFrom_32 : decode cX2_copyFrom 32 = .ok (.getfield 15, 3) := by decide +kernel
theorem dX2_copyFrom_35 : decode cX2_copyFrom 35 = .ok (.invokestatic 40, 3) := by decide +kernel
theorem dX2_copyFrom_38 : decode cX2_copyFrom 38 = .ok (.aload_n 1, 1) := by decide +kernel
theorem dX2_copyFrom_39 : decode cX2_copyFrom 39 = .ok (.getfield 18, 3) := by decide +kernel
theorem dX2_copyFrom_42 : decode cX2_copyFrom 42 = .ok (.aload_n 0, 1) := by decide +kernel
theorem dX2_copyFrom_43 : decode cX2_copyFrom 43 = .ok (.getfield 18, 3) := by decide +kernel
theorem dX2_copyFrom_46 : decode cX2_copyFrom 46 = .ok (.invokestatic 40, 3) := by decide +kernel
theorem dX2_copyFrom_49 : decode cX2_copyFrom 49 = .ok (.aload_n 1, 1) := by decide +kernel
theorem dX2_copyFrom_50 : decode cX2_copyFrom 50 = .ok (.getfield 21, 3) := by decide +kernel
theorem dX2_copyFrom_53 : decode cX2_copyFrom 53 = .ok (.aload_n 0, 1) := by decide +kernel
theorem dX2_copyFrom_54 : decode cX2_copyFrom 54 = .ok (.getfield 21, 3) := by decide +kernel
theorem dX2_copyFrom_57 : decode cX2_copyFrom 57 = .ok (.invokestatic 40, 3) := by decide +kernel
theorem dX2_copyFrom_60 : decode cX2_copyFrom 60 = .ok (.aload_n 1, 1) := by decide +kernel
theorem dX2_copyFrom_61 : decode cX2_copyFrom 61 = .ok (.getfield 24, 3) := by decide +kernel
theorem dX2_copyFrom_64 : decode cX2_copyFrom 64 = .ok (.aload_n 0, 1) := by decide +kernel
theorem dX2_copyFrom_65 : decode cX2_copyFrom 65 = .ok (.getfield 24, 3) := by decide +kernel
theorem dX2_copyFrom_68 : decode cX2_copyFrom 68 = .ok (.invokestatic 40, 3) := by decide +kernel
theorem dX2_copyFrom_71 : decode cX2_copyFrom 71 = .ok (.aload_n 1, 1) := by decide +kernel
theorem dX2_copyFrom_72 : decode cX2_copyFrom 72 = .ok (.getfield 27, 3) := by decide +kernel
theorem dX2_copyFrom_75 : decode cX2_copyFrom 75 = .ok (.aload_n 0, 1) := by decide +kernel
theorem dX2_copyFrom_76 : decode cX2_copyFrom 76 = .ok (.getfield 27, 3) := by decide +kernel
theorem dX2_copyFrom_79 : decode cX2_copyFrom 79 = .ok (.invokestatic 40, 3) := by decide +kernel
theorem dX2_copyFrom_82 : decode cX2_copyFrom 82 = .ok (.aload_n 1, 1) := by decide +kernel
theorem dX2_copyFrom_83 : decode cX2_copyFrom 83 = .ok (.getfield 30, 3) := by decide +kernel
theorem dX2_copyFrom_86 : decode cX2_copyFrom 86 = .ok (.aload_n 0, 1) := by decide +kernel
theorem dX2_copyFrom_87 : decode cX2_copyFrom 87 = .ok (.getfield 30, 3) := by decide +kernel
theorem dX2_copyFrom_90 : decode cX2_copyFrom 90 = .ok (.invokestatic 40, 3) := by decide +kernel
theorem dX2_copyFrom_93 : decode cX2_copyFrom 93 = .ok (.return_, 1) := by decide +kernel
theorem dX2_add_0 : decode cX2_add 0 = .ok (.aload_n 0, 1) := by decide +kernel
theorem dX2_add_1 : decode cX2_add 1 = .ok (.getfield 33, 3) := by decide +kernel
theorem dX2_add_4 : decode cX2_add 4 = .ok (.bipush 10, 2) := by decide +kernel
theorem dX2_add_6 : decode cX2_add 6 = .ok (.if_icmp .lt 5, 3) := by decide +kernel
theorem dX2_add_9 : decode cX2_add 9 = .ok (.iconst (-1), 1) := by decide +kernel
theorem dX2_add_10 : decode cX2_add 10 = .ok (.ireturn, 1) := by decide +kernel
theorem dX2_add_11 : decode cX2_add 11 = .ok (.aload_n 0, 1) := by decide +kernel
theorem dX2_add_12 : decode cX2_add 12 = .ok (.getfield 33, 3) := by decide +kernel
theorem dX2_add_15 : decode cX2_add 15 = .ok (.istore 7, 2) := by decide +kernel
theorem dX2_add_17 : decode cX2_add 17 = .ok (.aload_n 0, 1) := by decide +kernel
theorem dX2_add_18 : decode cX2_add 18 = .ok (.getfield 9, 3) := by decide +kernel
theorem dX2_add_21 : decode cX2_add 21 = .ok (.iload 7, 2) := by decide +kernel
theorem dX2_add_23 : decode cX2_add 23 = .ok (.iload_n 1, 1) := by decide +kernel
theorem dX2_add_24 : decode cX2_add 24 = .ok (.iastore, 1) := by decide +kernel
theorem dX2_add_25 : decode cX2_add 25 = .ok (.aload_n 0, 1) := by decide +kernel
theorem dX2_add_26 : decode cX2_add 26 = .ok (.getfield 15, 3) := by decide +kernel
theorem dX2_add_29 : decode cX2_add 29 = .ok (.iload 7, 2) := by decide +kernel
theorem dX2_add_31 : decode cX2_add 31 = .ok (.aload_n 0, 1) := by decide +kernel
theorem dX2_add_32 : decode cX2_add 32 = .ok (.getfield 37, 3) := by decide +kernel
theorem dX2_add_35 : decode cX2_add 35 = .ok (.iastore, 1) := by decide +kernel
theorem dX2_add_36 : decode cX2_add 36 = .ok (.aload_n 0, 1) := by decide +kernel
theorem dX2_add_37 : decode cX2_add 37 = .ok (.getfield 18, 3) := by decide +kernel
theorem dX2_add_40 : decode cX2_add 40 = .ok (.iload 7, 2) := by decide +kernel
theorem dX2_add_42 : decode cX2_add 42 = .ok (.iload_n 2, 1) := by decide +kernel
theorem dX2_add_43 : decode cX2_add 43 = .ok (.iastore, 1) := by decide +kernel
theorem dX2_add_44 : decode cX2_add 44 = .ok (.aload_n 0, 1) := by decide +kernel
theorem dX2_add_45 : decode cX2_add 45 = .ok (.getfield 21, 3) := by decide +kernel
theorem dX2_add_48 : decode cX2_add 48 = .ok (.iload 7, 2) := by decide +kernel
theorem dX2_add_50 : decode cX2_add 50 = .ok (.iload_n 3, 1) := by decide +kernel
theorem dX2_add_51 : decode cX2_add 51 = .ok (.iastore, 1) := by decide +kernel
theorem dX2_add_52 : decode cX2_add 52 = .ok (.aload_n 0, 1) := by decide +kernel
theorem dX2_add_53 : decode cX2_add 53 = .ok (.getfield 24, 3) := by decide +kernel
theorem dX2_add_56 : decode cX2_add 56 = .ok (.iload 7, 2) := by decide +kernel
theorem dX2_add_58 : decode cX2_add 58 = .ok (.iload 4, 2) := by decide +kernel
theorem dX2_add_60 : decode cX2_add 60 = .ok (.iastore, 1) := by decide +kernel
theorem dX2_add_61 : decode cX2_add 61 = .ok (.aload_n 0, 1) := by decide +kernel
theorem dX2_add_62 : decode cX2_add 62 = .ok (.getfield 27, 3) := by decide +kernel
theorem dX2_add_65 : decode cX2_add 65 = .ok (.iload 7, 2) := by decide +kernel
theorem dX2_add_67 : decode cX2_add 67 = .ok (.iload 5, 2) := by decide +kernel
theorem dX2_add_69 : decode cX2_add 69 = .ok (.iastore, 1) := by decide +kernel
theorem dX2_add_70 : decode cX2_add 70 = .ok (.aload_n 0, 1) := by decide +kernel
theorem dX2_add_71 : decode cX2_add 71 = .ok (.getfield 30, 3) := by decide +kernel
theorem dX2_add_74 : decode cX2_add 74 = .ok (.iload 7, 2) := by decide +kernel
theorem dX2_add_76 : decode cX2_add 76 = .ok (.iload 6, 2) := by decide +kernel
theorem dX2_add_78 : decode cX2_add 78 = .ok (.iastore, 1) := by decide +kernel
theorem dX2_add_79 : decode cX2_add 79 = .ok (.aload_n 0, 1) := by decide +kernel
theorem dX2_add_80 : decode cX2_add 80 = .ok (.dup, 1) := by decide +kernel
theorem dX2_add_81 : decode cX2_add 81 = .ok (.getfield 33, 3) := by decide +kernel
theorem dX2_add_84 : decode cX2_add 84 = .ok (.iconst 1, 1) := by decide +kernel
theorem dX2_add_85 : decode cX2_add 85 = .ok (.iadd, 1) := by decide +kernel
theorem dX2_add_86 : decode cX2_add 86 = .ok (.putfield 33, 3) := by decide +kernel
theorem dX2_add_89 : decode cX2_add 89 = .ok (.aload_n 0, 1) := by decide +kernel
theorem dX2_add_90 : decode cX2_add 90 = .ok (.dup, 1) := by decide +kernel
theorem dX2_add_91 : decode cX2_add 91 = .ok (.getfield 37, 3) := by decide +kernel
theorem dX2_add_94 : decode cX2_add 94 = .ok (.iconst 1, 1) := by decide +kernel
theorem dX2_add_95 : decode cX2_add 95 = .ok (.iadd, 1) := by decide +kernel
theorem dX2_add_96 : decode cX2_add 96 = .ok (.putfield 37, 3) := by decide +kernel
theorem dX2_add_99 : decode cX2_add 99 = .ok (.aload_n 0, 1) := by decide +kernel
theorem dX2_add_100 : decode cX2_add 100 = .ok (.getfield 15, 3) := by decide +kernel
theorem dX2_add_103 : decode cX2_add 103 = .ok (.iload 7, 2) := by decide +kernel
theorem dX2_add_105 : decode cX2_add 105 = .ok (.iaload, 1) := by decide +kernel
theorem dX2_add_106 : decode cX2_add 106 = .ok (.ireturn, 1) := by decide +kernel
theorem dX2_pay_0 : decode cX2_pay 0 = .ok (.iload_n 1, 1) := by decide +kernel
theorem dX2_pay_1 : decode cX2_pay 1 = .ok (.ifCond .lt 31, 3) := by decide +kernel
theorem dX2_pay_4 : decode cX2_pay 4 = .ok (.iload_n 1, 1) := by decide +kernel
theorem dX2_pay_5 : decode cX2_pay 5 = .ok (.aload_n 0, 1) := by decide +kernel
theorem dX2_pay_6 : decode cX2_pay 6 = .ok (.getfield 33, 3) := by decide +kernel
theorem dX2_pay_9 : decode cX2_pay 9 = .ok (.if_icmp .ge 23, 3) := by decide +kernel
theorem dX2_pay_12 : decode cX2_pay 12 = .ok (.aload_n 0, 1) := by decide +kernel
theorem dX2_pay_13 : decode cX2_pay 13 = .ok (.getfield 27, 3) := by decide +kernel
theorem dX2_pay_16 : decode cX2_pay 16 = .ok (.iload_n 1, 1) := by decide +kernel
theorem dX2_pay_17 : decode cX2_pay 17 = .ok (.dup2, 1) := by decide +kernel
theorem dX2_pay_18 : decode cX2_pay 18 = .ok (.iaload, 1) := by decide +kernel
theorem dX2_pay_19 : decode cX2_pay 19 = .ok (.iload_n 2, 1) := by decide +kernel
theorem dX2_pay_20 : decode cX2_pay 20 = .ok (.isub, 1) := by decide +kernel
theorem dX2_pay_21 : decode cX2_pay 21 = .ok (.iastore, 1) := by decide +kernel
theorem dX2_pay_22 : decode cX2_pay 22 = .ok (.aload_n 0, 1) := by decide +kernel
theorem dX2_pay_23 : decode cX2_pay 23 = .ok (.getfield 21, 3) := by decide +kernel
theorem dX2_pay_26 : decode cX2_pay 26 = .ok (.iload_n 1, 1) := by decide +kernel
theorem dX2_pay_27 : decode cX2_pay 27 = .ok (.dup2, 1) := by decide +kernel
theorem dX2_pay_28 : decode cX2_pay 28 = .ok (.iaload, 1) := by decide +kernel
theorem dX2_pay_29 : decode cX2_pay 29 = .ok (.iconst 1, 1) := by decide +kernel
theorem dX2_pay_30 : decode cX2_pay 30 = .ok (.isub, 1) := by decide +kernel
theorem dX2_pay_31 : decode cX2_pay 31 = .ok (.iastore, 1) := by decide +kernel
theorem dX2_pay_32 : decode cX2_pay 32 = .ok (.return_, 1) := by decide +kernel
theorem dX2_bidsOf_0 : decode cX2_bidsOf 0 = .ok (.iload_n 1, 1) := by decide +kernel
theorem dX2_bidsOf_1 : decode cX2_bidsOf 1 = .ok (.ifCond .lt 30, 3) := by decide +kernel
theorem dX2_bidsOf_4 : decode cX2_bidsOf 4 = .ok (.iload_n 1, 1) := by decide +kernel
theorem dX2_bidsOf_5 : decode cX2_bidsOf 5 = .ok (.aload_n 0, 1) := by decide +kernel
theorem dX2_bidsOf_6 : decode cX2_bidsOf 6 = .ok (.getfield 33, 3) := by decide +kernel
theorem dX2_bidsOf_9 : decode cX2_bidsOf 9 = .ok (.if_icmp .ge 22, 3) := by decide +kernel
theorem dX2_bidsOf_12 : decode cX2_bidsOf 12 = .ok (.aload_n 0, 1) := by decide +kernel
theorem dX2_bidsOf_13 : decode cX2_bidsOf 13 = .ok (.getfield 18, 3) := by decide +kernel
theorem dX2_bidsOf_16 : decode cX2_bidsOf 16 = .ok (.iload_n 1, 1) := by decide +kernel
theorem dX2_bidsOf_17 : decode cX2_bidsOf 17 = .ok (.iaload, 1) := by decide +kernel
theorem dX2_bidsOf_18 : decode cX2_bidsOf 18 = .ok (.iload_n 2, 1) := by decide +kernel
theorem dX2_bidsOf_19 : decode cX2_bidsOf 19 = .ok (.if_icmp .ne 12, 3) := by decide +kernel
theorem dX2_bidsOf_22 : decode cX2_bidsOf 22 = .ok (.aload_n 0, 1) := by decide +kernel
theorem dX2_bidsOf_23 : decode cX2_bidsOf 23 = .ok (.getfield 24, 3) := by decide +kernel
theorem dX2_bidsOf_26 : decode cX2_bidsOf 26 = .ok (.iload_n 1, 1) := by decide +kernel
theorem dX2_bidsOf_27 : decode cX2_bidsOf 27 = .ok (.iaload, 1) := by decide +kernel
theorem dX2_bidsOf_28 : decode cX2_bidsOf 28 = .ok (.ifCond .gt 5, 3) := by decide +kernel
theorem dX2_bidsOf_31 : decode cX2_bidsOf 31 = .ok (.iconst 0, 1) := by decide +kernel
theorem dX2_bidsOf_32 : decode cX2_bidsOf 32 = .ok (.ireturn, 1) := by decide +kernel
theorem dX2_bidsOf_33 : decode cX2_bidsOf 33 = .ok (.aload_n 0, 1) := by decide +kernel
theorem dX2_bidsOf_34 : decode cX2_bidsOf 34 = .ok (.getfield 27, 3) := by decide +kernel
theorem dX2_bidsOf_37 : decode cX2_bidsOf 37 = .ok (.iload_n 1, 1) := by decide +kernel
theorem dX2_bidsOf_38 : decode cX2_bidsOf 38 = .ok (.iaload, 1) := by decide +kernel
theorem dX2_bidsOf_39 : decode cX2_bidsOf 39 = .ok (.aload_n 0, 1) := by decide +kernel
theorem dX2_bidsOf_40 : decode cX2_bidsOf 40 = .ok (.getfield 24, 3) := by decide +kernel
theorem dX2_bidsOf_43 : decode cX2_bidsOf 43 = .ok (.iload_n 1, 1) := by decide +kernel
theorem dX2_bidsOf_44 : decode cX2_bidsOf 44 = .ok (.iaload, 1) := by decide +kernel
theorem dX2_bidsOf_45 : decode cX2_bidsOf 45 = .ok (.idiv, 1) := by decide +kernel
theorem dX2_bidsOf_46 : decode cX2_bidsOf 46 = .ok (.istore_n 3, 1) := by decide +kernel
theorem dX2_bidsOf_47 : decode cX2_bidsOf 47 = .ok (.iload_n 3, 1) := by decide +kernel
theorem dX2_bidsOf_48 : decode cX2_bidsOf 48 = .ok (.aload_n 0, 1) := by decide +kernel
theorem dX2_bidsOf_49 : decode cX2_bidsOf 49 = .ok (.getfield 21, 3) := by decide +kernel
theorem dX2_bidsOf_52 : decode cX2_bidsOf 52 = .ok (.iload_n 1, 1) := by decide +kernel
theorem dX2_bidsOf_53 : decode cX2_bidsOf 53 = .ok (.iaload, 1) := by decide +kernel
theorem dX2_bidsOf_54 : decode cX2_bidsOf 54 = .ok (.if_icmp .ge 7, 3) := by decide +kernel
theorem dX2_bidsOf_57 : decode cX2_bidsOf 57 = .ok (.iload_n 3, 1) := by decide +kernel
theorem dX2_bidsOf_58 : decode cX2_bidsOf 58 = .ok (.goto 9, 3) := by decide +kernel
theorem dX2_bidsOf_61 : decode cX2_bidsOf 61 = .ok (.aload_n 0, 1) := by decide +kernel
theorem dX2_bidsOf_62 : decode cX2_bidsOf 62 = .ok (.getfield 21, 3) := by decide +kernel
theorem dX2_bidsOf_65 : decode cX2_bidsOf 65 = .ok (.iload_n 1, 1) := by decide +kernel
theorem dX2_bidsOf_66 : decode cX2_bidsOf 66 = .ok (.iaload, 1) := by decide +kernel
theorem dX2_bidsOf_67 : decode cX2_bidsOf 67 = .ok (.ireturn, 1) := by decide +kernel
theorem dX2_closeGaps_0 : decode cX2_closeGaps 0 = .ok (.iconst 0, 1) := by decide +kernel
theorem dX2_closeGaps_1 : decode cX2_closeGaps 1 = .ok (.istore_n 1, 1) := by decide +kernel
theorem dX2_closeGaps_2 : decode cX2_closeGaps 2 = .ok (.iconst 0, 1) := by decide +kernel
theorem dX2_closeGaps_3 : decode cX2_closeGaps 3 = .ok (.istore_n 2, 1) := by decide +kernel
theorem dX2_closeGaps_4 : decode cX2_closeGaps 4 = .ok (.iload_n 2, 1) := by decide +kernel
theorem dX2_closeGaps_5 : decode cX2_closeGaps 5 = .ok (.aload_n 0, 1) := by decide +kernel
theorem dX2_closeGaps_6 : decode cX2_closeGaps 6 = .ok (.getfield 33, 3) := by decide +kernel
theorem dX2_closeGaps_9 : decode cX2_closeGaps 9 = .ok (.if_icmp .ge 28, 3) := by decide +kernel
theorem dX2_closeGaps_12 : decode cX2_closeGaps 12 = .ok (.aload_n 0, 1) := by decide +kernel
theorem dX2_closeGaps_13 : decode cX2_closeGaps 13 = .ok (.getfield 15, 3) := by decide +kernel
theorem dX2_closeGaps_16 : decode cX2_closeGaps 16 = .ok (.iload_n 2, 1) := by decide +kernel
theorem dX2_closeGaps_17 : decode cX2_closeGaps 17 = .ok (.iaload, 1) := by decide +kernel
theorem dX2_closeGaps_18 : decode cX2_closeGaps 18 = .ok (.iconst (-1), 1) := by decide +kernel
theorem dX2_closeGaps_19 : decode cX2_closeGaps 19 = .ok (.if_icmp .eq 12, 3) := by decide +kernel
theorem dX2_closeGaps_22 : decode cX2_closeGaps 22 = .ok (.aload_n 0, 1) := by decide +kernel
theorem dX2_closeGaps_23 : decode cX2_closeGaps 23 = .ok (.iload_n 2, 1) := by decide +kernel
theorem dX2_closeGaps_24 : decode cX2_closeGaps 24 = .ok (.iload_n 1, 1) := by decide +kernel
theorem dX2_closeGaps_25 : decode cX2_closeGaps 25 = .ok (.invokevirtual 44, 3) := by decide +kernel
theorem dX2_closeGaps_28 : decode cX2_closeGaps 28 = .ok (.iinc 1 1, 3) := by decide +kernel
theorem dX2_closeGaps_31 : decode cX2_closeGaps 31 = .ok (.iinc 2 1, 3) := by decide +kernel
theorem dX2_closeGaps_34 : decode cX2_closeGaps 34 = .ok (.goto (-30), 3) := by decide +kernel
theorem dX2_closeGaps_37 : decode cX2_closeGaps 37 = .ok (.aload_n 0, 1) := by decide +kernel
theorem dX2_closeGaps_38 : decode cX2_closeGaps 38 = .ok (.iload_n 1, 1) := by decide +kernel
theorem dX2_closeGaps_39 : decode cX2_closeGaps 39 = .ok (.putfield 33, 3) := by decide +kernel
theorem dX2_closeGaps_42 : decode cX2_closeGaps 42 = .ok (.return_, 1) := by decide +kernel
theorem dX2_move_0 : decode cX2_move 0 = .ok (.iload_n 1, 1) := by decide +kernel
theorem dX2_move_1 : decode cX2_move 1 = .ok (.ifCond .lt 19, 3) := by decide +kernel
theorem dX2_move_4 : decode cX2_move 4 = .ok (.iload_n 1, 1) := by decide +kernel
theorem dX2_move_5 : decode cX2_move 5 = .ok (.bipush 10, 2) := by decide +kernel
theorem dX2_move_7 : decode cX2_move 7 = .ok (.if_icmp .ge 13, 3) := by decide +kernel
theorem dX2_move_10 : decode cX2_move 10 = .ok (.iload_n 2, 1) := by decide +kernel
theorem dX2_move_11 : decode cX2_move 11 = .ok (.ifCond .lt 9, 3) := by decide +kernel
theorem dX2_move_14 : decode cX2_move 14 = .ok (.iload_n 2, 1) := by decide +kernel
theorem dX2_move_15 : decode cX2_move 15 = .ok (.bipush 10, 2) := by decide +kernel
theorem dX2_move_17 : decode cX2_move 17 = .ok (.if_icmp .lt 4, 3) := by decide +kernel
theorem dX2_move_20 : decode cX2_move 20 = .ok (.return_, 1) := by decide +kernel
theorem dX2_move_21 : decode cX2_move 21 = .ok (.aload_n 0, 1) := by decide +kernel
theorem dX2_move_22 : decode cX2_move 22 = .ok (.getfield 9, 3) := by decide +kernel
theorem dX2_move_25 : decode cX2_move 25 = .ok (.iload_n 2, 1) := by decide +kernel
theorem dX2_move_26 : decode cX2_move 26 = .ok (.aload_n 0, 1) := by decide +kernel
theorem dX2_move_27 : decode cX2_move 27 = .ok (.getfield 9, 3) := by decide +kernel
theorem dX2_move_30 : decode cX2_move 30 = .ok (.iload_n 1, 1) := by decide +kernel
theorem dX2_move_31 : decode cX2_move 31 = .ok (.iaload, 1) := by decide +kernel
theorem dX2_move_32 : decode cX2_move 32 = .ok (.iastore, 1) := by decide +kernel
theorem dX2_move_33 : decode cX2_move 33 = .ok (.aload_n 0, 1) := by decide +kernel
theorem dX2_move_34 : decode cX2_move 34 = .ok (.getfield 15, 3) := by decide +kernel
theorem dX2_move_37 : decode cX2_move 37 = .ok (.iload_n 2, 1) := by decide +kernel
theorem dX2_move_38 : decode cX2_move 38 = .ok (.aload_n 0, 1) := by decide +kernel
theorem dX2_move_39 : decode cX2_move 39 = .ok (.getfield 15, 3) := by decide +kernel
theorem dX2_move_42 : decode cX2_move 42 = .ok (.iload_n 1, 1) := by decide +kernel
theorem dX2_move_43 : decode cX2_move 43 = .ok (.iaload, 1) := by decide +kernel
theorem dX2_move_44 : decode cX2_move 44 = .ok (.iastore, 1) := by decide +kernel
theorem dX2_move_45 : decode cX2_move 45 = .ok (.aload_n 0, 1) := by decide +kernel
theorem dX2_move_46 : decode cX2_move 46 = .ok (.getfield 18, 3) := by decide +kernel
theorem dX2_move_49 : decode cX2_move 49 = .ok (.iload_n 2, 1) := by decide +kernel
theorem dX2_move_50 : decode cX2_move 50 = .ok (.aload_n 0, 1) := by decide +kernel
theorem dX2_move_51 : decode cX2_move 51 = .ok (.getfield 18, 3) := by decide +kernel
theorem dX2_move_54 : decode cX2_move 54 = .ok (.iload_n 1, 1) := by decide +kernel
theorem dX2_move_55 : decode cX2_move 55 = .ok (.iaload, 1) := by decide +kernel
theorem dX2_move_56 : decode cX2_move 56 = .ok (.iastore, 1) := by decide +kernel
theorem dX2_move_57 : decode cX2_move 57 = .ok (.aload_n 0, 1) := by decide +kernel
theorem dX2_move_58 : decode cX2_move 58 = .ok (.getfield 21, 3) := by decide +kernel
theorem dX2_move_61 : decode cX2_move 61 = .ok (.iload_n 2, 1) := by decide +kernel
theorem dX2_move_62 : decode cX2_move 62 = .ok (.aload_n 0, 1) := by decide +kernel
theorem dX2_move_63 : decode cX2_move 63 = .ok (.getfield 21, 3) := by decide +kernel
theorem dX2_move_66 : decode cX2_move 66 = .ok (.iload_n 1, 1) := by decide +kernel
theorem dX2_move_67 : decode cX2_move 67 = .ok (.iaload, 1) := by decide +kernel
theorem dX2_move_68 : decode cX2_move 68 = .ok (.iastore, 1) := by decide +kernel
theorem dX2_move_69 : decode cX2_move 69 = .ok (.aload_n 0, 1) := by decide +kernel
theorem dX2_move_70 : decode cX2_move 70 = .ok (.getfield 24, 3) := by decide +kernel
theorem dX2_move_73 : decode cX2_move 73 = .ok (.iload_n 2, 1) := by decide +kernel
theorem dX2_move_74 : decode cX2_move 74 = .ok (.aload_n 0, 1) := by decide +kernel
theorem dX2_move_75 : decode cX2_move 75 = .ok (.getfield 24, 3) := by decide +kernel
theorem dX2_move_78 : decode cX2_move 78 = .ok (.iload_n 1, 1) := by decide +kernel
theorem dX2_move_79 : decode cX2_move 79 = .ok (.iaload, 1) := by decide +kernel
theorem dX2_move_80 : decode cX2_move 80 = .ok (.iastore, 1) := by decide +kernel
theorem dX2_move_81 : decode cX2_move 81 = .ok (.aload_n 0, 1) := by decide +kernel
theorem dX2_move_82 : decode cX2_move 82 = .ok (.getfield 27, 3) := by decide +kernel
theorem dX2_move_85 : decode cX2_move 85 = .ok (.iload_n 2, 1) := by decide +kernel
theorem dX2_move_86 : decode cX2_move 86 = .ok (.aload_n 0, 1) := by decide +kernel
theorem dX2_move_87 : decode cX2_move 87 = .ok (.getfield 27, 3) := by decide +kernel
theorem dX2_move_90 : decode cX2_move 90 = .ok (.iload_n 1, 1) := by decide +kernel
theorem dX2_move_91 : decode cX2_move 91 = .ok (.iaload, 1) := by decide +kernel
theorem dX2_move_92 : decode cX2_move 92 = .ok (.iastore, 1) := by decide +kernel
theorem dX2_move_93 : decode cX2_move 93 = .ok (.aload_n 0, 1) := by decide +kernel
theorem dX2_move_94 : decode cX2_move 94 = .ok (.getfield 30, 3) := by decide +kernel
theorem dX2_move_97 : decode cX2_move 97 = .ok (.iload_n 2, 1) := by decide +kernel
theorem dX2_move_98 : decode cX2_move 98 = .ok (.aload_n 0, 1) := by decide +kernel
theorem dX2_move_99 : decode cX2_move 99 = .ok (.getfield 30, 3) := by decide +kernel
theorem dX2_move_102 : decode cX2_move 102 = .ok (.iload_n 1, 1) := by decide +kernel
theorem dX2_move_103 : decode cX2_move 103 = .ok (.iaload, 1) := by decide +kernel
theorem dX2_move_104 : decode cX2_move 104 = .ok (.iastore, 1) := by decide +kernel
theorem dX2_move_105 : decode cX2_move 105 = .ok (.return_, 1) := by decide +kernel
theorem dX3_init_0 : decode cX3_init 0 = .ok (.aload_n 0, 1) := by decide +kernel
theorem dX3_init_1 : decode cX3_init 1 = .ok (.invokespecial 3, 3) := by decide +kernel
theorem dX3_init_4 : decode cX3_init 4 = .ok (.aload_n 0, 1) := by decide +kernel
theorem dX3_init_5 : decode cX3_init 5 = .ok (.bipush 30, 2) := by decide +kernel
theorem dX3_init_7 : decode cX3_init 7 = .ok (.newarray .int, 2) := by decide +kernel
theorem dX3_init_9 : decode cX3_init 9 = .ok (.putfield 9, 3) := by decide +kernel
theorem dX3_init_12 : decode cX3_init 12 = .ok (.aload_n 0, 1) := by decide +kernel
theorem dX3_init_13 : decode cX3_init 13 = .ok (.bipush 30, 2) := by decide +kernel
theorem dX3_init_15 : decode cX3_init 15 = .ok (.newarray .int, 2) := by decide +kernel
theorem dX3_init_17 : decode cX3_init 17 = .ok (.putfield 15, 3) := by decide +kernel
theorem dX3_init_20 : decode cX3_init 20 = .ok (.aload_n 0, 1) := by decide +kernel
theorem dX3_init_21 : decode cX3_init 21 = .ok (.bipush 30, 2) := by decide +kernel
theorem dX3_init_23 : decode cX3_init 23 = .ok (.newarray .int, 2) := by decide +kernel
theorem dX3_init_25 : decode cX3_init 25 = .ok (.putfield 18, 3) := by decide +kernel
theorem dX3_init_28 : decode cX3_init 28 = .ok (.return_, 1) := by decide +kernel
theorem dX3_copyFrom_0 : decode cX3_copyFrom 0 = .ok (.aload_n 0, 1) := by decide +kernel
theorem dX3_copyFrom_1 : decode cX3_copyFrom 1 = .ok (.aload_n 1, 1) := by decide +kernel
theorem dX3_copyFrom_2 : decode cX3_copyFrom 2 = .ok (.getfield 21, 3) := by decide +kernel
theorem dX3_copyFrom_5 : decode cX3_copyFrom 5 = .ok (.putfield 21, 3) := by decide +kernel
theorem dX3_copyFrom_8 : decode cX3_copyFrom 8 = .ok (.aload_n 1, 1) := by decide +kernel
theorem dX3_copyFrom_9 : decode cX3_copyFrom 9 = .ok (.getfield 9, 3) := by decide +kernel
theorem dX3_copyFrom_12 : decode cX3_copyFrom 12 = .ok (.aload_n 0, 1) := by decide +kernel
theorem dX3_copyFrom_13 : decode cX3_copyFrom 13 = .ok (.getfield 9, 3) := by decide +kernel
theorem dX3_copyFrom_16 : decode cX3_copyFrom 16 = .ok (.invokestatic 25, 3) := by decide +kernel
theorem dX3_copyFrom_19 : decode cX3_copyFrom 19 = .ok (.aload_n 1, 1) := by decide +kernel
theorem dX3_copyFrom_20 : decode cX3_copyFrom 20 = .ok (.getfield 15, 3) := by decide +kernel
theorem dX3_copyFrom_23 : decode cX3_copyFrom 23 = .ok (.aload_n 0, 1) := by decide +kernel
theorem dX3_copyFrom_24 : decode cX3_copyFrom 24 = .ok (.getfield 15, 3) := by decide +kernel
theorem dX3_copyFrom_27 : decode cX3_copyFrom 27 = .ok (.invokestatic 25, 3) := by decide +kernel
theorem dX3_copyFrom_30 : decode cX3_copyFrom 30 = .ok (.aload_n 1, 1) := by decide +kernel
theorem dX3_copyFrom_31 : decode cX3_copyFrom 31 = .ok (.getfield 18, 3) := by decide +kernel
theorem dX3_copyFrom_34 : decode cX3_copyFrom 34 = .ok (.aload_n 0, 1) := by decide +kernel
theorem dX3_copyFrom_35 : decode cX3_copyFrom 35 = .ok (.getfield 18, 3) := by decide +kernel
theorem dX3_copyFrom_38 : decode cX3_copyFrom 38 = .ok (.invokestatic 25, 3) := by decide +kernel
theorem dX3_copyFrom_41 : decode cX3_copyFrom 41 = .ok (.return_, 1) := by decide +kernel
theorem dX3_add_0 : decode cX3_add 0 = .ok (.aload_n 0, 1) := by decide +kernel
theorem dX3_add_1 : decode cX3_add 1 = .ok (.getfield 21, 3) := by decide +kernel
theorem dX3_add_4 : decode cX3_add 4 = .ok (.bipush 30, 2) := by decide +kernel
theorem dX3_add_6 : decode cX3_add 6 = .ok (.if_icmp .lt 54, 3) := by decide +kernel
theorem dX3_add_9 : decode cX3_add 9 = .ok (.aload_n 0, 1) := by decide +kernel
theorem dX3_add_10 : decode cX3_add 10 = .ok (.getfield 9, 3) := by decide +kernel
theorem dX3_add_13 : decode cX3_add 13 = .ok (.iconst 1, 1) := by decide +kernel
theorem dX3_add_14 : decode cX3_add 14 = .ok (.aload_n 0, 1) := by decide +kernel
theorem dX3_add_15 : decode cX3_add 15 = .ok (.getfield 9, 3) := by decide +kernel
theorem dX3_add_18 : decode cX3_add 18 = .ok (.iconst 0, 1) := by decide +kernel
theorem dX3_add_19 : decode cX3_add 19 = .ok (.bipush 29, 2) := by decide +kernel
theorem dX3_add_21 : decode cX3_add 21 = .ok (.invokestatic 29, 3) := by decide +kernel
theorem dX3_add_24 : decode cX3_add 24 = .ok (.aload_n 0, 1) := by decide +kernel
theorem dX3_add_25 : decode cX3_add 25 = .ok (.getfield 15, 3) := by decide +kernel
theorem dX3_add_28 : decode cX3_add 28 = .ok (.iconst 1, 1) := by decide +kernel
theorem dX3_add_29 : decode cX3_add 29 = .ok (.aload_n 0, 1) := by decide +kernel
theorem dX3_add_30 : decode cX3_add 30 = .ok (.getfield 15, 3) := by decide +kernel
theorem dX3_add_33 : decode cX3_add 33 = .ok (.iconst 0, 1) := by decide +kernel
theorem dX3_add_34 : decode cX3_add 34 = .ok (.bipush 29, 2) := by decide +kernel
theorem dX3_add_36 : decode cX3_add 36 = .ok (.invokestatic 29, 3) := by decide +kernel
theorem dX3_add_39 : decode cX3_add 39 = .ok (.aload_n 0, 1) := by decide +kernel
theorem dX3_add_40 : decode cX3_add 40 = .ok (.getfield 18, 3) := by decide +kernel
theorem dX3_add_43 : decode cX3_add 43 = .ok (.iconst 1, 1) := by decide +kernel
theorem dX3_add_44 : decode cX3_add 44 = .ok (.aload_n 0, 1) := by decide +kernel
theorem dX3_add_45 : decode cX3_add 45 = .ok (.getfield 18, 3) := by decide +kernel
theorem dX3_add_48 : decode cX3_add 48 = .ok (.iconst 0, 1) := by decide +kernel
theorem dX3_add_49 : decode cX3_add 49 = .ok (.bipush 29, 2) := by decide +kernel
theorem dX3_add_51 : decode cX3_add 51 = .ok (.invokestatic 29, 3) := by decide +kernel
theorem dX3_add_54 : decode cX3_add 54 = .ok (.aload_n 0, 1) := by decide +kernel
theorem dX3_add_55 : decode cX3_add 55 = .ok (.bipush 29, 2) := by decide +kernel
theorem dX3_add_57 : decode cX3_add 57 = .ok (.putfield 21, 3) := by decide +kernel
theorem dX3_add_60 : decode cX3_add 60 = .ok (.aload_n 0, 1) := by decide +kernel
theorem dX3_add_61 : decode cX3_add 61 = .ok (.getfield 9, 3) := by decide +kernel
theorem dX3_add_64 : decode cX3_add 64 = .ok (.aload_n 0, 1) := by decide +kernel
theorem dX3_add_65 : decode cX3_add 65 = .ok (.getfield 21, 3) := by decide +kernel
theorem dX3_add_68 : decode cX3_add 68 = .ok (.iload_n 1, 1) := by decide +kernel
theorem dX3_add_69 : decode cX3_add 69 = .ok (.iastore, 1) := by decide +kernel
theorem dX3_add_70 : decode cX3_add 70 = .ok (.aload_n 0, 1) := by decide +kernel
theorem dX3_add_71 : decode cX3_add 71 = .ok (.getfield 15, 3) := by decide +kernel
theorem dX3_add_74 : decode cX3_add 74 = .ok (.aload_n 0, 1) := by decide +kernel
theorem dX3_add_75 : decode cX3_add 75 = .ok (.getfield 21, 3) := by decide +kernel
theorem dX3_add_78 : decode cX3_add 78 = .ok (.iload_n 2, 1) := by decide +kernel
theorem dX3_add_79 : decode cX3_add 79 = .ok (.iastore, 1) := by decide +kernel
theorem dX3_add_80 : decode cX3_add 80 = .ok (.aload_n 0, 1) := by decide +kernel
theorem dX3_add_81 : decode cX3_add 81 = .ok (.getfield 18, 3) := by decide +kernel
theorem dX3_add_84 : decode cX3_add 84 = .ok (.aload_n 0, 1) := by decide +kernel
theorem dX3_add_85 : decode cX3_add 85 = .ok (.getfield 21, 3) := by decide +kernel
theorem dX3_add_88 : decode cX3_add 88 = .ok (.iload_n 3, 1) := by decide +kernel
theorem dX3_add_89 : decode cX3_add 89 = .ok (.iastore, 1) := by decide +kernel
theorem dX3_add_90 : decode cX3_add 90 = .ok (.aload_n 0, 1) := by decide +kernel
theorem dX3_add_91 : decode cX3_add 91 = .ok (.dup, 1) := by decide +kernel
theorem dX3_add_92 : decode cX3_add 92 = .ok (.getfield 21, 3) := by decide +kernel
theorem dX3_add_95 : decode cX3_add 95 = .ok (.iconst 1, 1) := by decide +kernel
theorem dX3_add_96 : decode cX3_add 96 = .ok (.iadd, 1) := by decide +kernel
theorem dX3_add_97 : decode cX3_add 97 = .ok (.putfield 21, 3) := by decide +kernel
theorem dX3_add_100 : decode cX3_add 100 = .ok (.return_, 1) := by decide +kernel
theorem dX4_init_0 : decode cX4_init 0 = .ok (.aload_n 0, 1) := by decide +kernel
theorem dX4_init_1 : decode cX4_init 1 = .ok (.invokespecial 3, 3) := by decide +kernel
theorem dX4_init_4 : decode cX4_init 4 = .ok (.aload_n 0, 1) := by decide +kernel
theorem dX4_init_5 : decode cX4_init 5 = .ok (.new 9, 3) := by decide +kernel
theorem dX4_init_8 : decode cX4_init 8 = .ok (.dup, 1) := by decide +kernel
theorem dX4_init_9 : decode cX4_init 9 = .ok (.aload_n 1, 1) := by decide +kernel
theorem dX4_init_10 : decode cX4_init 10 = .ok (.invokespecial 11, 3) := by decide +kernel
theorem dX4_init_13 : decode cX4_init 13 = .ok (.putfield 14, 3) := by decide +kernel
theorem dX4_init_16 : decode cX4_init 16 = .ok (.aload_n 0, 1) := by decide +kernel
theorem dX4_init_17 : decode cX4_init 17 = .ok (.aload_n 2, 1) := by decide +kernel
theorem dX4_init_18 : decode cX4_init 18 = .ok (.putfield 20, 3) := by decide +kernel
theorem dX4_init_21 : decode cX4_init 21 = .ok (.return_, 1) := by decide +kernel
theorem dX4_read_0 : decode cX4_read 0 = .ok (.aload_n 0, 1) := by decide +kernel
theorem dX4_read_1 : decode cX4_read 1 = .ok (.iconst 0, 1) := by decide +kernel
theorem dX4_read_2 : decode cX4_read 2 = .ok (.putfield 24, 3) := by decide +kernel
theorem dX4_read_5 : decode cX4_read 5 = .ok (.aload_n 0, 1) := by decide +kernel
theorem dX4_read_6 : decode cX4_read 6 = .ok (.iconst (-1), 1) := by decide +kernel
theorem dX4_read_7 : decode cX4_read 7 = .ok (.putfield 28, 3) := by decide +kernel
theorem dX4_read_10 : decode cX4_read 10 = .ok (.aload_n 2, 1) := by decide +kernel
theorem dX4_read_11 : decode cX4_read 11 = .ok (.invokevirtual 31, 3) := by decide +kernel
theorem dX4_read_14 : decode cX4_read 14 = .ok (.aload_n 0, 1) := by decide +kernel
theorem dX4_read_15 : decode cX4_read 15 = .ok (.getfield 14, 3) := by decide +kernel
theorem dX4_read_18 : decode cX4_read 18 = .ok (.iload_n 1, 1) := by decide +kernel
theorem dX4_read_19 : decode cX4_read 19 = .ok (.invokevirtual 36, 3) := by decide +kernel
theorem dX4_read_22 : decode cX4_read 22 = .ok (.aload_n 0, 1) := by decide +kernel
theorem dX4_read_23 : decode cX4_read 23 = .ok (.getfield 14, 3) := by decide +kernel
theorem dX4_read_26 : decode cX4_read 26 = .ok (.ldc 40, 2) := by decide +kernel
theorem dX4_read_28 : decode cX4_read 28 = .ok (.invokevirtual 42, 3) := by decide +kernel
theorem dX4_read_31 : decode cX4_read 31 = .ok (.ifCond .eq 11, 3) := by decide +kernel
theorem dX4_read_34 : decode cX4_read 34 = .ok (.aload_n 0, 1) := by decide +kernel
theorem dX4_read_35 : decode cX4_read 35 = .ok (.aload_n 2, 1) := by decide +kernel
theorem dX4_read_36 : decode cX4_read 36 = .ok (.invokevirtual 46, 3) := by decide +kernel
theorem dX4_read_39 : decode cX4_read 39 = .ok (.goto 8, 3) := by decide +kernel
theorem dX4_read_42 : decode cX4_read 42 = .ok (.aload_n 0, 1) := by decide +kernel
theorem dX4_read_43 : decode cX4_read 43 = .ok (.iconst 1, 1) := by decide +kernel
theorem dX4_read_44 : decode cX4_read 44 = .ok (.invokevirtual 50, 3) := by decide +kernel
theorem dX4_read_47 : decode cX4_read 47 = .ok (.iconst 0, 1) := by decide +kernel
theorem dX4_read_48 : decode cX4_read 48 = .ok (.istore_n 3, 1) := by decide +kernel
theorem dX4_read_49 : decode cX4_read 49 = .ok (.iload_n 3, 1) := by decide +kernel
theorem dX4_read_50 : decode cX4_read 50 = .ok (.iload_n 1, 1) := by decide +kernel
theorem dX4_read_51 : decode cX4_read 51 = .ok (.if_icmp .ge 151, 3) := by decide +kernel
theorem dX4_read_54 : decode cX4_read 54 = .ok (.aload_n 0, 1) := by decide +kernel
theorem dX4_read_55 : decode cX4_read 55 = .ok (.getfield 24, 3) := by decide +kernel
theorem dX4_read_58 : decode cX4_read 58 = .ok (.ifCond .ne 144, 3) := by decide +kernel
theorem dX4_read_61 : decode cX4_read 61 = .ok (.aload_n 0, 1) := by decide +kernel
theorem dX4_read_62 : decode cX4_read 62 = .ok (.getfield 14, 3) := by decide +kernel
theorem dX4_read_65 : decode cX4_read 65 = .ok (.getfield 53, 3) := by decide +kernel
theorem dX4_read_68 : decode cX4_read 68 = .ok (.ifCond .eq 134, 3) := by decide +kernel
theorem dX4_read_71 : decode cX4_read 71 = .ok (.aload_n 0, 1) := by decide +kernel
theorem dX4_read_72 : decode cX4_read 72 = .ok (.getfield 14, 3) := by decide +kernel
theorem dX4_read_75 : decode cX4_read 75 = .ok (.ldc 56, 2) := by decide +kernel
theorem dX4_read_77 : decode cX4_read 77 = .ok (.invokevirtual 42, 3) := by decide +kernel
theorem dX4_read_80 : decode cX4_read 80 = .ok (.ifCond .eq 11, 3) := by decide +kernel
theorem dX4_read_83 : decode cX4_read 83 = .ok (.aload_n 0, 1) := by decide +kernel
theorem dX4_read_84 : decode cX4_read 84 = .ok (.aload_n 2, 1) := by decide +kernel
theorem dX4_read_85 : decode cX4_read 85 = .ok (.invokevirtual 58, 3) := by decide +kernel
theorem dX4_read_88 : decode cX4_read 88 = .ok (.goto 108, 3) := by decide +kernel
theorem dX4_read_91 : decode cX4_read 91 = .ok (.aload_n 0, 1) := by decide +kernel
theorem dX4_read_92 : decode cX4_read 92 = .ok (.getfield 14, 3) := by decide +kernel
theorem dX4_read_95 : decode cX4_read 95 = .ok (.ldc 61, 2) := by decide +kernel
theorem dX4_read_97 : decode cX4_read 97 = .ok (.invokevirtual 42, 3) := by decide +kernel
theorem dX4_read_100 : decode cX4_read 100 = .ok (.ifCond .eq 11, 3) := by decide +kernel
theorem dX4_read_103 : decode cX4_read 103 = .ok (.aload_n 0, 1) := by decide +kernel
theorem dX4_read_104 : decode cX4_read 104 = .ok (.aload_n 2, 1) := by decide +kernel
theorem dX4_read_105 : decode cX4_read 105 = .ok (.invokevirtual 63, 3) := by decide +kernel
theorem dX4_read_108 : decode cX4_read 108 = .ok (.goto 88, 3) := by decide +kernel
theorem dX4_read_111 : decode cX4_read 111 = .ok (.aload_n 0, 1) := by decide +kernel
theorem dX4_read_112 : decode cX4_read 112 = .ok (.getfield 14, 3) := by decide +kernel
theorem dX4_read_115 : decode cX4_read 115 = .ok (.ldc 66, 2) := by decide +kernel
theorem dX4_read_117 : decode cX4_read 117 = .ok (.invokevirtual 42, 3) := by decide +kernel
theorem dX4_read_120 : decode cX4_read 120 = .ok (.ifCond .eq 11, 3) := by decide +kernel
theorem dX4_read_123 : decode cX4_read 123 = .ok (.aload_n 0, 1) := by decide +kernel
theorem dX4_read_124 : decode cX4_read 124 = .ok (.aload_n 2, 1) := by decide +kernel
theorem dX4_read_125 : decode cX4_read 125 = .ok (.invokevirtual 68, 3) := by decide +kernel
theorem dX4_read_128 : decode cX4_read 128 = .ok (.goto 68, 3) := by decide +kernel
theorem dX4_read_131 : decode cX4_read 131 = .ok (.aload_n 0, 1) := by decide +kernel
theorem dX4_read_132 : decode cX4_read 132 = .ok (.getfield 14, 3) := by decide +kernel
theorem dX4_read_135 : decode cX4_read 135 = .ok (.ldc 71, 2) := by decide +kernel
theorem dX4_read_137 : decode cX4_read 137 = .ok (.invokevirtual 42, 3) := by decide +kernel
theorem dX4_read_140 : decode cX4_read 140 = .ok (.ifCond .eq 11, 3) := by decide +kernel
theorem dX4_read_143 : decode cX4_read 143 = .ok (.aload_n 0, 1) := by decide +kernel
theorem dX4_read_144 : decode cX4_read 144 = .ok (.aload_n 2, 1) := by decide +kernel
theorem dX4_read_145 : decode cX4_read 145 = .ok (.invokevirtual 72, 3) := by decide +kernel
theorem dX4_read_148 : decode cX4_read 148 = .ok (.goto 48, 3) := by decide +kernel
theorem dX4_read_151 : decode cX4_read 151 = .ok (.aload_n 0, 1) := by decide +kernel
theorem dX4_read_152 : decode cX4_read 152 = .ok (.getfield 14, 3) := by decide +kernel
theorem dX4_read_155 : decode cX4_read 155 = .ok (.ldc 75, 2) := by decide +kernel
theorem dX4_read_157 : decode cX4_read 157 = .ok (.invokevirtual 42, 3) := by decide +kernel
theorem dX4_read_160 : decode cX4_read 160 = .ok (.ifCond .eq 11, 3) := by decide +kernel
theorem dX4_read_163 : decode cX4_read 163 = .ok (.aload_n 0, 1) := by decide +kernel
theorem dX4_read_164 : decode cX4_read 164 = .ok (.aload_n 2, 1) := by decide +kernel
theorem dX4_read_165 : decode cX4_read 165 = .ok (.invokevirtual 77, 3) := by decide +kernel
theorem dX4_read_168 : decode cX4_read 168 = .ok (.goto 28, 3) := by decide +kernel
theorem dX4_read_171 : decode cX4_read 171 = .ok (.aload_n 0, 1) := by decide +kernel
theorem dX4_read_172 : decode cX4_read 172 = .ok (.getfield 14, 3) := by decide +kernel
theorem dX4_read_175 : decode cX4_read 175 = .ok (.ldc 80, 2) := by decide +kernel
theorem dX4_read_177 : decode cX4_read 177 = .ok (.invokevirtual 42, 3) := by decide +kernel
theorem dX4_read_180 : decode cX4_read 180 = .ok (.ifCond .eq 11, 3) := by decide +kernel
theorem dX4_read_183 : decode cX4_read 183 = .ok (.aload_n 0, 1) := by decide +kernel
theorem dX4_read_184 : decode cX4_read 184 = .ok (.aload_n 2, 1) := by decide +kernel
theorem dX4_read_185 : decode cX4_read 185 = .ok (.invokevirtual 82, 3) := by decide +kernel
theorem dX4_read_188 : decode cX4_read 188 = .ok (.goto 8, 3) := by decide +kernel
theorem dX4_read_191 : decode cX4_read 191 = .ok (.aload_n 0, 1) := by decide +kernel
theorem dX4_read_192 : decode cX4_read 192 = .ok (.iconst 1, 1) := by decide +kernel
theorem dX4_read_193 : decode cX4_read 193 = .ok (.invokevirtual 50, 3) := by decide +kernel
theorem dX4_read_196 : decode cX4_read 196 = .ok (.iinc 3 1, 3) := by decide +kernel
theorem dX4_read_199 : decode cX4_read 199 = .ok (.goto (-150), 3) := by decide +kernel
theorem dX4_read_202 : decode cX4_read 202 = .ok (.return_, 1) := by decide +kernel
theorem dX4_marketStatement_0 : decode cX4_marketStatement 0 = .ok (.aload_n 0, 1) := by decide +kernel
theorem dX4_marketStatement_1 : decode cX4_marketStatement 1 = .ok (.getfield 14, 3) := by decide +kernel
theorem dX4_marketStatement_4 : decode cX4_marketStatement 4 = .ok (.invokevirtual 85, 3) := by decide +kernel
theorem dX4_marketStatement_7 : decode cX4_marketStatement 7 = .ok (.aload_n 0, 1) := by decide +kernel
theorem dX4_marketStatement_8 : decode cX4_marketStatement 8 = .ok (.iconst 1, 1) := by decide +kernel
theorem dX4_marketStatement_9 : decode cX4_marketStatement 9 = .ok (.bipush 99, 2) := by decide +kernel
theorem dX4_marketStatement_11 : decode cX4_marketStatement 11 = .ok (.invokevirtual 88, 3) := by decide +kernel
theorem dX4_marketStatement_14 : decode cX4_marketStatement 14 = .ok (.istore_n 2, 1) := by decide +kernel
theorem dX4_marketStatement_15 : decode cX4_marketStatement 15 = .ok (.aload_n 0, 1) := by decide +kernel
theorem dX4_marketStatement_16 : decode cX4_marketStatement 16 = .ok (.iconst 1, 1) := by decide +kernel
theorem dX4_marketStatement_17 : decode cX4_marketStatement 17 = .ok (.bipush 99, 2) := by decide +kernel
theorem dX4_marketStatement_19 : decode cX4_marketStatement 19 = .ok (.invokevirtual 88, 3) := by decide +kernel
theorem dX4_marketStatement_22 : decode cX4_marketStatement 22 = .ok (.istore_n 3, 1) := by decide +kernel
theorem dX4_marketStatement_23 : decode cX4_marketStatement 23 = .ok (.aload_n 0, 1) := by decide +kernel
theorem dX4_marketStatement_24 : decode cX4_marketStatement 24 = .ok (.iconst 1, 1) := by decide +kernel
theorem dX4_marketStatement_25 : decode cX4_marketStatement 25 = .ok (.bipush 99, 2) := by decide +kernel
theorem dX4_marketStatement_27 : decode cX4_marketStatement 27 = .ok (.invokevirtual 88, 3) := by decide +kernel
theorem dX4_marketStatement_30 : decode cX4_marketStatement 30 = .ok (.istore 4, 2) := by decide +kernel
theorem dX4_marketStatement_32 : decode cX4_marketStatement 32 = .ok (.aload_n 0, 1) := by decide +kernel
theorem dX4_marketStatement_33 : decode cX4_marketStatement 33 = .ok (.invokevirtual 92, 3) := by decide +kernel
theorem dX4_marketStatement_36 : decode cX4_marketStatement 36 = .ok (.aload_n 0, 1) := by decide +kernel
theorem dX4_marketStatement_37 : decode cX4_marketStatement 37 = .ok (.getfield 24, 3) := by decide +kernel
theorem dX4_marketStatement_40 : decode cX4_marketStatement 40 = .ok (.ifCond .ne 25, 3) := by decide +kernel
theorem dX4_marketStatement_43 : decode cX4_marketStatement 43 = .ok (.aload_n 1, 1) := by decide +kernel
theorem dX4_marketStatement_44 : decode cX4_marketStatement 44 = .ok (.getfield 95, 3) := by decide +kernel
theorem dX4_marketStatement_47 : decode cX4_marketStatement 47 = .ok (.iconst 0, 1) := by decide +kernel
theorem dX4_marketStatement_48 : decode cX4_marketStatement 48 = .ok (.iload_n 2, 1) := by decide +kernel
theorem dX4_marketStatement_49 : decode cX4_marketStatement 49 = .ok (.iastore, 1) := by decide +kernel
theorem dX4_marketStatement_50 : decode cX4_marketStatement 50 = .ok (.aload_n 1, 1) := by decide +kernel
theorem dX4_marketStatement_51 : decode cX4_marketStatement 51 = .ok (.getfield 95, 3) := by decide +kernel
theorem dX4_marketStatement_54 : decode cX4_marketStatement 54 = .ok (.iconst 1, 1) := by decide +kernel
theorem dX4_marketStatement_55 : decode cX4_marketStatement 55 = .ok (.iload_n 3, 1) := by decide +kernel
theorem dX4_marketStatement_56 : decode cX4_marketStatement 56 = .ok (.iastore, 1) := by decide +kernel
theorem dX4_marketStatement_57 : decode cX4_marketStatement 57 = .ok (.aload_n 1, 1) := by decide +kernel
theorem dX4_marketStatement_58 : decode cX4_marketStatement 58 = .ok (.getfield 95, 3) := by decide +kernel
theorem dX4_marketStatement_61 : decode cX4_marketStatement 61 = .ok (.iconst 2, 1) := by decide +kernel
theorem dX4_marketStatement_62 : decode cX4_marketStatement 62 = .ok (.iload 4, 2) := by decide +kernel
theorem dX4_marketStatement_64 : decode cX4_marketStatement 64 = .ok (.iastore, 1) := by decide +kernel
theorem dX4_marketStatement_65 : decode cX4_marketStatement 65 = .ok (.return_, 1) := by decide +kernel
theorem dX4_bakerStatement_0 : decode cX4_bakerStatement 0 = .ok (.aload_n 1, 1) := by decide +kernel
theorem dX4_bakerStatement_1 : decode cX4_bakerStatement 1 = .ok (.getfield 99, 3) := by decide +kernel
theorem dX4_bakerStatement_4 : decode cX4_bakerStatement 4 = .ok (.getfield 103, 3) := by decide +kernel
theorem dX4_bakerStatement_7 : decode cX4_bakerStatement 7 = .ok (.iconst 4, 1) := by decide +kernel
theorem dX4_bakerStatement_8 : decode cX4_bakerStatement 8 = .ok (.if_icmp .lt 9, 3) := by decide +kernel
theorem dX4_bakerStatement_11 : decode cX4_bakerStatement 11 = .ok (.aload_n 0, 1) := by decide +kernel
theorem dX4_bakerStatement_12 : decode cX4_bakerStatement 12 = .ok (.iconst 5, 1) := by decide +kernel
theorem dX4_bakerStatement_13 : decode cX4_bakerStatement 13 = .ok (.invokevirtual 50, 3) := by decide +kernel
theorem dX4_bakerStatement_16 : decode cX4_bakerStatement 16 = .ok (.return_, 1) := by decide +kernel
theorem dX4_bakerStatement_17 : decode cX4_bakerStatement 17 = .ok (.aload_n 0, 1) := by decide +kernel
theorem dX4_bakerStatement_18 : decode cX4_bakerStatement 18 = .ok (.getfield 14, 3) := by decide +kernel
theorem dX4_bakerStatement_21 : decode cX4_bakerStatement 21 = .ok (.invokevirtual 85, 3) := by decide +kernel
theorem dX4_bakerStatement_24 : decode cX4_bakerStatement 24 = .ok (.aload_n 0, 1) := by decide +kernel
theorem dX4_bakerStatement_25 : decode cX4_bakerStatement 25 = .ok (.aload_n 1, 1) := by decide +kernel
theorem dX4_bakerStatement_26 : decode cX4_bakerStatement 26 = .ok (.invokevirtual 108, 3) := by decide +kernel
theorem dX4_bakerStatement_29 : decode cX4_bakerStatement 29 = .ok (.istore_n 2, 1) := by decide +kernel
theorem dX4_bakerStatement_30 : decode cX4_bakerStatement 30 = .ok (.aload_n 0, 1) := by decide +kernel
theorem dX4_bakerStatement_31 : decode cX4_bakerStatement 31 = .ok (.iconst 1, 1) := by decide +kernel
theorem dX4_bakerStatement_32 : decode cX4_bakerStatement 32 = .ok (.bipush 12, 2) := by decide +kernel
theorem dX4_bakerStatement_34 : decode cX4_bakerStatement 34 = .ok (.invokevirtual 88, 3) := by decide +kernel
theorem dX4_bakerStatement_37 : decode cX4_bakerStatement 37 = .ok (.istore_n 3, 1) := by decide +kernel
theorem dX4_bakerStatement_38 : decode cX4_bakerStatement 38 = .ok (.aload_n 0, 1) := by decide +kernel
theorem dX4_bakerStatement_39 : decode cX4_bakerStatement 39 = .ok (.iconst 1, 1) := by decide +kernel
theorem dX4_bakerStatement_40 : decode cX4_bakerStatement 40 = .ok (.bipush 9, 2) := by decide +kernel
theorem dX4_bakerStatement_42 : decode cX4_bakerStatement 42 = .ok (.invokevirtual 88, 3) := by decide +kernel
theorem dX4_bakerStatement_45 : decode cX4_bakerStatement 45 = .ok (.istore 4, 2) := by decide +kernel
theorem dX4_bakerStatement_47 : decode cX4_bakerStatement 47 = .ok (.aload_n 0, 1) := by decide +kernel
theorem dX4_bakerStatement_48 : decode cX4_bakerStatement 48 = .ok (.invokevirtual 92, 3) := by decide +kernel
theorem dX4_bakerStatement_51 : decode cX4_bakerStatement 51 = .ok (.aload_n 0, 1) := by decide +kernel
theorem dX4_bakerStatement_52 : decode cX4_bakerStatement 52 = .ok (.getfield 24, 3) := by decide +kernel
theorem dX4_bakerStatement_55 : decode cX4_bakerStatement 55 = .ok (.ifCond .ne 14, 3) := by decide +kernel
theorem dX4_bakerStatement_58 : decode cX4_bakerStatement 58 = .ok (.aload_n 1, 1) := by decide +kernel
theorem dX4_bakerStatement_59 : decode cX4_bakerStatement 59 = .ok (.getfield 99, 3) := by decide +kernel
theorem dX4_bakerStatement_62 : decode cX4_bakerStatement 62 = .ok (.iload_n 2, 1) := by decide +kernel
theorem dX4_bakerStatement_63 : decode cX4_bakerStatement 63 = .ok (.iload_n 3, 1) := by decide +kernel
theorem dX4_bakerStatement_64 : decode cX4_bakerStatement 64 = .ok (.iload 4, 2) := by decide +kernel
theorem dX4_bakerStatement_66 : decode cX4_bakerStatement 66 = .ok (.invokevirtual 112, 3) := by decide +kernel
theorem dX4_bakerStatement_69 : decode cX4_bakerStatement 69 = .ok (.return_, 1) := by decide +kernel
theorem dX4_bakeStatement_0 : decode cX4_bakeStatement 0 = .ok (.aload_n 0, 1) := by decide +kernel
theorem dX4_bakeStatement_1 : decode cX4_bakeStatement 1 = .ok (.getfield 14, 3) := by decide +kernel
theorem dX4_bakeStatement_4 : decode cX4_bakeStatement 4 = .ok (.invokevirtual 85, 3) := by decide +kernel
theorem dX4_bakeStatement_7 : decode cX4_bakeStatement 7 = .ok (.aload_n 0, 1) := by decide +kernel
theorem dX4_bakeStatement_8 : decode cX4_bakeStatement 8 = .ok (.aload_n 1, 1) := by decide +kernel
theorem dX4_bakeStatement_9 : decode cX4_bakeStatement 9 = .ok (.getfield 99, 3) := by decide +kernel
theorem dX4_bakeStatement_12 : decode cX4_bakeStatement 12 = .ok (.invokevirtual 116, 3) := by decide +kernel
theorem dX4_bakeStatement_15 : decode cX4_bakeStatement 15 = .ok (.istore_n 2, 1) := by decide +kernel
theorem dX4_bakeStatement_16 : decode cX4_bakeStatement 16 = .ok (.aload_n 0, 1) := by decide +kernel
theorem dX4_bakeStatement_17 : decode cX4_bakeStatement 17 = .ok (.invokevirtual 120, 3) := by decide +kernel
theorem dX4_bakeStatement_20 : decode cX4_bakeStatement 20 = .ok (.istore_n 3, 1) := by decide +kernel
theorem dX4_bakeStatement_21 : decode cX4_bakeStatement 21 = .ok (.aload_n 0, 1) := by decide +kernel
theorem dX4_bakeStatement_22 : decode cX4_bakeStatement 22 = .ok (.getfield 24, 3) := by decide +kernel
theorem dX4_bakeStatement_25 : decode cX4_bakeStatement 25 = .ok (.ifCond .ne 27, 3) := by decide +kernel
theorem dX4_bakeStatement_28 : decode cX4_bakeStatement 28 = .ok (.aload_n 0, 1) := by decide +kernel
theorem dX4_bakeStatement_29 : decode cX4_bakeStatement 29 = .ok (.getfield 14, 3) := by decide +kernel
theorem dX4_bakeStatement_32 : decode cX4_bakeStatement 32 = .ok (.invokevirtual 124, 3) := by decide +kernel
theorem dX4_bakeStatement_35 : decode cX4_bakeStatement 35 = .ok (.ifCond .eq 17, 3) := by decide +kernel
theorem dX4_bakeStatement_38 : decode cX4_bakeStatement 38 = .ok (.aload_n 1, 1) := by decide +kernel
theorem dX4_bakeStatement_39 : decode cX4_bakeStatement 39 = .ok (.iload_n 2, 1) := by decide +kernel
theorem dX4_bakeStatement_40 : decode cX4_bakeStatement 40 = .ok (.invokevirtual 128, 3) := by decide +kernel
theorem dX4_bakeStatement_43 : decode cX4_bakeStatement 43 = .ok (.ifCond .eq 9, 3) := by decide +kernel
theorem dX4_bakeStatement_46 : decode cX4_bakeStatement 46 = .ok (.aload_n 0, 1) := by decide +kernel
theorem dX4_bakeStatement_47 : decode cX4_bakeStatement 47 = .ok (.bipush 6, 2) := by decide +kernel
theorem dX4_bakeStatement_49 : decode cX4_bakeStatement 49 = .ok (.invokevirtual 50, 3) := by decide +kernel
theorem dX4_bakeStatement_52 : decode cX4_bakeStatement 52 = .ok (.aload_n 0, 1) := by decide +kernel
theorem dX4_bakeStatement_53 : decode cX4_bakeStatement 53 = .ok (.invokevirtual 92, 3) := by decide +kernel
theorem dX4_bakeStatement_56 : decode cX4_bakeStatement 56 = .ok (.aload_n 0, 1) := by decide +kernel
theorem dX4_bakeStatement_57 : decode cX4_bakeStatement 57 = .ok (.getfield 24, 3) := by decide +kernel
theorem dX4_bakeStatement_60 : decode cX4_bakeStatement 60 = .ok (.ifCond .ne 12, 3) := by decide +kernel
theorem dX4_bakeStatement_63 : decode cX4_bakeStatement 63 = .ok (.aload_n 1, 1) := by decide +kernel
theorem dX4_bakeStatement_64 : decode cX4_bakeStatement 64 = .ok (.getfield 99, 3) := by decide +kernel
theorem dX4_bakeStatement_67 : decode cX4_bakeStatement 67 = .ok (.iload_n 2, 1) := by decide +kernel
theorem dX4_bakeStatement_68 : decode cX4_bakeStatement 68 = .ok (.iload_n 3, 1) := by decide +kernel
theorem dX4_bakeStatement_69 : decode cX4_bakeStatement 69 = .ok (.invokevirtual 132, 3) := by decide +kernel
theorem dX4_bakeStatement_72 : decode cX4_bakeStatement 72 = .ok (.return_, 1) := by decide +kernel
theorem dX4_customerStatement_0 : decode cX4_customerStatement 0 = .ok (.aload_n 1, 1) := by decide +kernel
theorem dX4_customerStatement_1 : decode cX4_customerStatement 1 = .ok (.getfield 135, 3) := by decide +kernel
theorem dX4_customerStatement_4 : decode cX4_customerStatement 4 = .ok (.getfield 139, 3) := by decide +kernel
theorem dX4_customerStatement_7 : decode cX4_customerStatement 7 = .ok (.bipush 10, 2) := by decide +kernel
theorem dX4_customerStatement_9 : decode cX4_customerStatement 9 = .ok (.if_icmp .lt 9, 3) := by decide +kernel
theorem dX4_customerStatement_12 : decode cX4_customerStatement 12 = .ok (.aload_n 0, 1) := by decide +kernel
theorem dX4_customerStatement_13 : decode cX4_customerStatement 13 = .ok (.iconst 5, 1) := by decide +kernel
theorem dX4_customerStatement_14 : decode cX4_customerStatement 14 = .ok (.invokevirtual 50, 3) := by decide +kernel
theorem dX4_customerStatement_17 : decode cX4_customerStatement 17 = .ok (.return_, 1) := by decide +kernel
theorem dX4_customerStatement_18 : decode cX4_customerStatement 18 = .ok (.aload_n 0, 1) := by decide +kernel
theorem dX4_customerStatement_19 : decode cX4_customerStatement 19 = .ok (.getfield 14, 3) := by decide +kernel
theorem dX4_customerStatement_22 : decode cX4_customerStatement 22 = .ok (.invokevirtual 85, 3) := by decide +kernel
theorem dX4_customerStatement_25 : decode cX4_customerStatement 25 = .ok (.aload_n 0, 1) := by decide +kernel
theorem dX4_customerStatement_26 : decode cX4_customerStatement 26 = .ok (.aload_n 1, 1) := by decide +kernel
theorem dX4_customerStatement_27 : decode cX4_customerStatement 27 = .ok (.invokevirtual 108, 3) := by decide +kernel
theorem dX4_customerStatement_30 : decode cX4_customerStatement 30 = .ok (.istore_n 2, 1) := by decide +kernel
theorem dX4_customerStatement_31 : decode cX4_customerStatement 31 = .ok (.aload_n 0, 1) := by decide +kernel
theorem dX4_customerStatement_32 : decode cX4_customerStatement 32 = .ok (.invokevirtual 120, 3) := by decide +kernel
theorem dX4_customerStatement_35 : decode cX4_customerStatement 35 = .ok (.istore_n 3, 1) := by decide +kernel
theorem dX4_customerStatement_36 : decode cX4_customerStatement 36 = .ok (.aload_n 0, 1) := by decide +kernel
theorem dX4_customerStatement_37 : decode cX4_customerStatement 37 = .ok (.iconst 1, 1) := by decide +kernel
theorem dX4_customerStatement_38 : decode cX4_customerStatement 38 = .ok (.bipush 9, 2) := by decide +kernel
theorem dX4_customerStatement_40 : decode cX4_customerStatement 40 = .ok (.invokevirtual 88, 3) := by decide +kernel
theorem dX4_customerStatement_43 : decode cX4_customerStatement 43 = .ok (.istore 4, 2) := by decide +kernel
theorem dX4_customerStatement_45 : decode cX4_customerStatement 45 = .ok (.aload_n 0, 1) := by decide +kernel
theorem dX4_customerStatement_46 : decode cX4_customerStatement 46 = .ok (.iconst 1, 1) := by decide +kernel
theorem dX4_customerStatement_47 : decode cX4_customerStatement 47 = .ok (.bipush 99, 2) := by decide +kernel
theorem dX4_customerStatement_49 : decode cX4_customerStatement 49 = .ok (.invokevirtual 88, 3) := by decide +kernel
theorem dX4_customerStatement_52 : decode cX4_customerStatement 52 = .ok (.istore 5, 2) := by decide +kernel
theorem dX4_customerStatement_54 : decode cX4_customerStatement 54 = .ok (.aload_n 0, 1) := by decide +kernel
theorem dX4_customerStatement_55 : decode cX4_customerStatement 55 = .ok (.iconst 0, 1) := by decide +kernel
theorem dX4_customerStatement_56 : decode cX4_customerStatement 56 = .ok (.sipush 999, 3) := by decide +kernel
theorem dX4_customerStatement_59 : decode cX4_customerStatement 59 = .ok (.invokevirtual 88, 3) := by decide +kernel
theorem dX4_customerStatement_62 : decode cX4_customerStatement 62 = .ok (.istore 6, 2) := by decide +kernel
theorem dX4_customerStatement_64 : decode cX4_customerStatement 64 = .ok (.aload_n 0, 1) := by decide +kernel
theorem dX4_customerStatement_65 : decode cX4_customerStatement 65 = .ok (.iconst 1, 1) := by decide +kernel
theorem dX4_customerStatement_66 : decode cX4_customerStatement 66 = .ok (.bipush 99, 2) := by decide +kernel
theorem dX4_customerStatement_68 : decode cX4_customerStatement 68 = .ok (.invokevirtual 88, 3) := by decide +kernel
theorem dX4_customerStatement_71 : decode cX4_customerStatement 71 = .ok (.istore 7, 2) := by decide +kernel
theorem dX4_customerStatement_73 : decode cX4_customerStatement 73 = .ok (.aload_n 0, 1) := by decide +kernel
theorem dX4_customerStatement_74 : decode cX4_customerStatement 74 = .ok (.invokevirtual 92, 3) := by decide +kernel
theorem dX4_customerStatement_77 : decode cX4_customerStatement 77 = .ok (.aload_n 0, 1) := by decide +kernel
theorem dX4_customerStatement_78 : decode cX4_customerStatement 78 = .ok (.getfield 24, 3) := by decide +kernel
theorem dX4_customerStatement_81 : decode cX4_customerStatement 81 = .ok (.ifCond .ne 18, 3) := by decide +kernel
theorem dX4_customerStatement_84 : decode cX4_customerStatement 84 = .ok (.aload_n 1, 1) := by decide +kernel
theorem dX4_customerStatement_85 : decode cX4_customerStatement 85 = .ok (.iload_n 2, 1) := by decide +kernel
theorem dX4_customerStatement_86 : decode cX4_customerStatement 86 = .ok (.iload_n 3, 1) := by decide +kernel
theorem dX4_customerStatement_87 : decode cX4_customerStatement 87 = .ok (.iload 4, 2) := by decide +kernel
theorem dX4_customerStatement_89 : decode cX4_customerStatement 89 = .ok (.iload 5, 2) := by decide +kernel
theorem dX4_customerStatement_91 : decode cX4_customerStatement 91 = .ok (.iload 6, 2) := by decide +kernel
theorem dX4_customerStatement_93 : decode cX4_customerStatement 93 = .ok (.iload 7, 2) := by decide +kernel
theorem dX4_customerStatement_95 : decode cX4_customerStatement 95 = .ok (.invokevirtual 142, 3) := by decide +kernel
theorem dX4_customerStatement_98 : decode cX4_customerStatement 98 = .ok (.pop, 1) := by decide +kernel
theorem dX4_customerStatement_99 : decode cX4_customerStatement 99 = .ok (.return_, 1) := by decide +kernel
theorem dX4_auctionStatement_0 : decode cX4_auctionStatement 0 = .ok (.aload_n 0, 1) := by decide +kernel
theorem dX4_auctionStatement_1 : decode cX4_auctionStatement 1 = .ok (.getfield 14, 3) := by decide +kernel
theorem dX4_auctionStatement_4 : decode cX4_auctionStatement 4 = .ok (.invokevirtual 85, 3) := by decide +kernel
theorem dX4_auctionStatement_7 : decode cX4_auctionStatement 7 = .ok (.aload_n 0, 1) := by decide +kernel
theorem dX4_auctionStatement_8 : decode cX4_auctionStatement 8 = .ok (.invokevirtual 120, 3) := by decide +kernel
theorem dX4_auctionStatement_11 : decode cX4_auctionStatement 11 = .ok (.istore_n 2, 1) := by decide +kernel
theorem dX4_auctionStatement_12 : decode cX4_auctionStatement 12 = .ok (.aload_n 0, 1) := by decide +kernel
theorem dX4_auctionStatement_13 : decode cX4_auctionStatement 13 = .ok (.invokevirtual 92, 3) := by decide +kernel
theorem dX4_auctionStatement_16 : decode cX4_auctionStatement 16 = .ok (.aload_n 0, 1) := by decide +kernel
theorem dX4_auctionStatement_17 : decode cX4_auctionStatement 17 = .ok (.getfield 24, 3) := by decide +kernel
theorem dX4_auctionStatement_20 : decode cX4_auctionStatement 20 = .ok (.ifCond .ne 12, 3) := by decide +kernel
theorem dX4_auctionStatement_23 : decode cX4_auctionStatement 23 = .ok (.aload_n 0, 1) := by decide +kernel
theorem dX4_auctionStatement_24 : decode cX4_auctionStatement 24 = .ok (.getfield 20, 3) := by decide +kernel
theorem dX4_auctionStatement_27 : decode cX4_auctionStatement 27 = .ok (.aload_n 1, 1) := by decide +kernel
theorem dX4_auctionStatement_28 : decode cX4_auctionStatement 28 = .ok (.iload_n 2, 1) := by decide +kernel
theorem dX4_auctionStatement_29 : decode cX4_auctionStatement 29 = .ok (.invokevirtual 146, 3) := by decide +kernel
theorem dX4_auctionStatement_32 : decode cX4_auctionStatement 32 = .ok (.return_, 1) := by decide +kernel
theorem dX4_sparrowsStatement_0 : decode cX4_sparrowsStatement 0 = .ok (.aload_n 0, 1) := by decide +kernel
theorem dX4_sparrowsStatement_1 : decode cX4_sparrowsStatement 1 = .ok (.getfield 14, 3) := by decide +kernel
theorem dX4_sparrowsStatement_4 : decode cX4_sparrowsStatement 4 = .ok (.invokevirtual 85, 3) := by decide +kernel
theorem dX4_sparrowsStatement_7 : decode cX4_sparrowsStatement 7 = .ok (.aload_n 0, 1) := by decide +kernel
theorem dX4_sparrowsStatement_8 : decode cX4_sparrowsStatement 8 = .ok (.iconst 0, 1) := by decide +kernel
theorem dX4_sparrowsStatement_9 : decode cX4_sparrowsStatement 9 = .ok (.bipush 9, 2) := by decide +kernel
theorem dX4_sparrowsStatement_11 : decode cX4_sparrowsStatement 11 = .ok (.invokevirtual 88, 3) := by decide +kernel
theorem dX4_sparrowsStatement_14 : decode cX4_sparrowsStatement 14 = .ok (.istore_n 2, 1) := by decide +kernel
theorem dX4_sparrowsStatement_15 : decode cX4_sparrowsStatement 15 = .ok (.aload_n 0, 1) := by decide +kernel
theorem dX4_sparrowsStatement_16 : decode cX4_sparrowsStatement 16 = .ok (.iconst 0, 1) := by decide +kernel
theorem dX4_sparrowsStatement_17 : decode cX4_sparrowsStatement 17 = .ok (.sipush 999, 3) := by decide +kernel
theorem dX4_sparrowsStatement_20 : decode cX4_sparrowsStatement 20 = .ok (.invokevirtual 88, 3) := by decide +kernel
theorem dX4_sparrowsStatement_23 : decode cX4_sparrowsStatement 23 = .ok (.istore_n 3, 1) := by decide +kernel
theorem dX4_sparrowsStatement_24 : decode cX4_sparrowsStatement 24 = .ok (.aload_n 0, 1) := by decide +kernel
theorem dX4_sparrowsStatement_25 : decode cX4_sparrowsStatement 25 = .ok (.invokevirtual 92, 3) := by decide +kernel
theorem dX4_sparrowsStatement_28 : decode cX4_sparrowsStatement 28 = .ok (.aload_n 0, 1) := by decide +kernel
theorem dX4_sparrowsStatement_29 : decode cX4_sparrowsStatement 29 = .ok (.getfield 24, 3) := by decide +kernel
theorem dX4_sparrowsStatement_32 : decode cX4_sparrowsStatement 32 = .ok (.ifCond .ne 13, 3) := by decide +kernel
theorem dX4_sparrowsStatement_35 : decode cX4_sparrowsStatement 35 = .ok (.aload_n 1, 1) := by decide +kernel
theorem dX4_sparrowsStatement_36 : decode cX4_sparrowsStatement 36 = .ok (.iload_n 2, 1) := by decide +kernel
theorem dX4_sparrowsStatement_37 : decode cX4_sparrowsStatement 37 = .ok (.putfield 152, 3) := by decide +kernel
theorem dX4_sparrowsStatement_40 : decode cX4_sparrowsStatement 40 = .ok (.aload_n 1, 1) := by decide +kernel
theorem dX4_sparrowsStatement_41 : decode cX4_sparrowsStatement 41 = .ok (.iload_n 3, 1) := by decide +kernel
theorem dX4_sparrowsStatement_42 : decode cX4_sparrowsStatement 42 = .ok (.putfield 154, 3) := by decide +kernel
theorem dX4_sparrowsStatement_45 : decode cX4_sparrowsStatement 45 = .ok (.return_, 1) := by decide +kernel
theorem dX4_hoursStatement_0 : decode cX4_hoursStatement 0 = .ok (.aload_n 0, 1) := by decide +kernel
theorem dX4_hoursStatement_1 : decode cX4_hoursStatement 1 = .ok (.getfield 14, 3) := by decide +kernel
theorem dX4_hoursStatement_4 : decode cX4_hoursStatement 4 = .ok (.invokevirtual 85, 3) := by decide +kernel
theorem dX4_hoursStatement_7 : decode cX4_hoursStatement 7 = .ok (.aload_n 0, 1) := by decide +kernel
theorem dX4_hoursStatement_8 : decode cX4_hoursStatement 8 = .ok (.iconst 0, 1) := by decide +kernel
theorem dX4_hoursStatement_9 : decode cX4_hoursStatement 9 = .ok (.bipush 60, 2) := by decide +kernel
theorem dX4_hoursStatement_11 : decode cX4_hoursStatement 11 = .ok (.invokevirtual 88, 3) := by decide +kernel
theorem dX4_hoursStatement_14 : decode cX4_hoursStatement 14 = .ok (.istore_n 2, 1) := by decide +kernel
theorem dX4_hoursStatement_15 : decode cX4_hoursStatement 15 = .ok (.aload_n 0, 1) := by decide +kernel
theorem dX4_hoursStatement_16 : decode cX4_hoursStatement 16 = .ok (.invokevirtual 92, 3) := by decide +kernel
theorem dX4_hoursStatement_19 : decode cX4_hoursStatement 19 = .ok (.iconst 0, 1) := by decide +kernel
theorem dX4_hoursStatement_20 : decode cX4_hoursStatement 20 = .ok (.istore_n 3, 1) := by decide +kernel
theorem dX4_hoursStatement_21 : decode cX4_hoursStatement 21 = .ok (.iload_n 3, 1) := by decide +kernel
theorem dX4_hoursStatement_22 : decode cX4_hoursStatement 22 = .ok (.iload_n 2, 1) := by decide +kernel
theorem dX4_hoursStatement_23 : decode cX4_hoursStatement 23 = .ok (.if_icmp .ge 20, 3) := by decide +kernel
theorem dX4_hoursStatement_26 : decode cX4_hoursStatement 26 = .ok (.aload_n 0, 1) := by decide +kernel
theorem dX4_hoursStatement_27 : decode cX4_hoursStatement 27 = .ok (.getfield 24, 3) := by decide +kernel
theorem dX4_hoursStatement_30 : decode cX4_hoursStatement 30 = .ok (.ifCond .ne 13, 3) := by decide +kernel
theorem dX4_hoursStatement_33 : decode cX4_hoursStatement 33 = .ok (.aload_n 1, 1) := by decide +kernel
theorem dX4_hoursStatement_34 : decode cX4_hoursStatement 34 = .ok (.invokevirtual 157, 3) := by decide +kernel
theorem dX4_hoursStatement_37 : decode cX4_hoursStatement 37 = .ok (.iinc 3 1, 3) := by decide +kernel
theorem dX4_hoursStatement_40 : decode cX4_hoursStatement 40 = .ok (.goto (-19), 3) := by decide +kernel
theorem dX4_hoursStatement_43 : decode cX4_hoursStatement 43 = .ok (.return_, 1) := by decide +kernel
theorem dX4_fail_0 : decode cX4_fail 0 = .ok (.aload_n 0, 1) := by decide +kernel
theorem dX4_fail_1 : decode cX4_fail 1 = .ok (.iload_n 1, 1) := by decide +kernel
theorem dX4_fail_2 : decode cX4_fail 2 = .ok (.putfield 24, 3) := by decide +kernel
theorem dX4_fail_5 : decode cX4_fail 5 = .ok (.aload_n 0, 1) := by decide +kernel
theorem dX4_fail_6 : decode cX4_fail 6 = .ok (.aload_n 0, 1) := by decide +kernel
theorem dX4_fail_7 : decode cX4_fail 7 = .ok (.getfield 14, 3) := by decide +kernel
theorem dX4_fail_10 : decode cX4_fail 10 = .ok (.getfield 160, 3) := by decide +kernel
theorem dX4_fail_13 : decode cX4_fail 13 = .ok (.putfield 28, 3) := by decide +kernel
theorem dX4_fail_16 : decode cX4_fail 16 = .ok (.return_, 1) := by decide +kernel
theorem dX4_semicolon_0 : decode cX4_semicolon 0 = .ok (.aload_n 0, 1) := by decide +kernel
theorem dX4_semicolon_1 : decode cX4_semicolon 1 = .ok (.getfield 24, 3) := by decide +kernel
theorem dX4_semicolon_4 : decode cX4_semicolon 4 = .ok (.ifCond .ne 28, 3) := by decide +kernel
theorem dX4_semicolon_7 : decode cX4_semicolon 7 = .ok (.aload_n 0, 1) := by decide +kernel
theorem dX4_semicolon_8 : decode cX4_semicolon 8 = .ok (.getfield 14, 3) := by decide +kernel
theorem dX4_semicolon_11 : decode cX4_semicolon 11 = .ok (.invokevirtual 124, 3) := by decide +kernel
theorem dX4_semicolon_14 : decode cX4_semicolon 14 = .ok (.ifCond .eq 13, 3) := by decide +kernel
theorem dX4_semicolon_17 : decode cX4_semicolon 17 = .ok (.aload_n 0, 1) := by decide +kernel
theorem dX4_semicolon_18 : decode cX4_semicolon 18 = .ok (.getfield 14, 3) := by decide +kernel
theorem dX4_semicolon_21 : decode cX4_semicolon 21 = .ok (.invokevirtual 85, 3) := by decide +kernel
theorem dX4_semicolon_24 : decode cX4_semicolon 24 = .ok (.goto 8, 3) := by decide +kernel
theorem dX4_semicolon_27 : decode cX4_semicolon 27 = .ok (.aload_n 0, 1) := by decide +kernel
theorem dX4_semicolon_28 : decode cX4_semicolon 28 = .ok (.iconst 1, 1) := by decide +kernel
theorem dX4_semicolon_29 : decode cX4_semicolon 29 = .ok (.invokevirtual 50, 3) := by decide +kernel
theorem dX4_semicolon_32 : decode cX4_semicolon 32 = .ok (.return_, 1) := by decide +kernel
theorem dX4_number_0 : decode cX4_number 0 = .ok (.aload_n 0, 1) := by decide +kernel
theorem dX4_number_1 : decode cX4_number 1 = .ok (.getfield 24, 3) := by decide +kernel
theorem dX4_number_4 : decode cX4_number 4 = .ok (.ifCond .eq 5, 3) := by decide +kernel
theorem dX4_number_7 : decode cX4_number 7 = .ok (.iload_n 1, 1) := by decide +kernel
theorem dX4_number_8 : decode cX4_number 8 = .ok (.ireturn, 1) := by decide +kernel
theorem dX4_number_9 : decode cX4_number 9 = .ok (.aload_n 0, 1) := by decide +kernel
theorem dX4_number_10 : decode cX4_number 10 = .ok (.getfield 14, 3) := by decide +kernel
theorem dX4_number_13 : decode cX4_number 13 = .ok (.getfield 53, 3) := by decide +kernel
theorem dX4_number_16 : decode cX4_number 16 = .ok (.iconst 2, 1) := by decide +kernel
theorem dX4_number_17 : decode cX4_number 17 = .ok (.if_icmp .eq 10, 3) := by decide +kernel
theorem dX4_number_20 : decode cX4_number 20 = .ok (.aload_n 0, 1) := by decide +kernel
theorem dX4_number_21 : decode cX4_number 21 = .ok (.iconst 1, 1) := by decide +kernel
theorem dX4_number_22 : decode cX4_number 22 = .ok (.invokevirtual 50, 3) := by decide +kernel
theorem dX4_number_25 : decode cX4_number 25 = .ok (.iload_n 1, 1) := by decide +kernel
theorem dX4_number_26 : decode cX4_number 26 = .ok (.ireturn, 1) := by decide +kernel
theorem dX4_number_27 : decode cX4_number 27 = .ok (.aload_n 0, 1) := by decide +kernel
theorem dX4_number_28 : decode cX4_number 28 = .ok (.getfield 14, 3) := by decide +kernel
theorem dX4_number_31 : decode cX4_number 31 = .ok (.invokevirtual 163, 3) := by decide +kernel
theorem dX4_number_34 : decode cX4_number 34 = .ok (.istore_n 3, 1) := by decide +kernel
theorem dX4_number_35 : decode cX4_number 35 = .ok (.iload_n 3, 1) := by decide +kernel
theorem dX4_number_36 : decode cX4_number 36 = .ok (.iload_n 1, 1) := by decide +kernel
theorem dX4_number_37 : decode cX4_number 37 = .ok (.if_icmp .lt 8, 3) := by decide +kernel
theorem dX4_number_40 : decode cX4_number 40 = .ok (.iload_n 3, 1) := by decide +kernel
theorem dX4_number_41 : decode cX4_number 41 = .ok (.iload_n 2, 1) := by decide +kernel
theorem dX4_number_42 : decode cX4_number 42 = .ok (.if_icmp .le 11, 3) := by decide +kernel
theorem dX4_number_45 : decode cX4_number 45 = .ok (.aload_n 0, 1) := by decide +kernel
theorem dX4_number_46 : decode cX4_number 46 = .ok (.iconst 2, 1) := by decide +kernel
theorem dX4_number_47 : decode cX4_number 47 = .ok (.invokevirtual 50, 3) := by decide +kernel
theorem dX4_number_50 : decode cX4_number 50 = .ok (.goto 10, 3) := by decide +kernel
theorem dX4_number_53 : decode cX4_number 53 = .ok (.aload_n 0, 1) := by decide +kernel
theorem dX4_number_54 : decode cX4_number 54 = .ok (.getfield 14, 3) := by decide +kernel
theorem dX4_number_57 : decode cX4_number 57 = .ok (.invokevirtual 85, 3) := by decide +kernel
theorem dX4_number_60 : decode cX4_number 60 = .ok (.iload_n 3, 1) := by decide +kernel
theorem dX4_number_61 : decode cX4_number 61 = .ok (.ireturn, 1) := by decide +kernel
theorem dX4_kind_0 : decode cX4_kind 0 = .ok (.aload_n 0, 1) := by decide +kernel
theorem dX4_kind_1 : decode cX4_kind 1 = .ok (.getfield 24, 3) := by decide +kernel
theorem dX4_kind_4 : decode cX4_kind 4 = .ok (.ifCond .eq 5, 3) := by decide +kernel
theorem dX4_kind_7 : decode cX4_kind 7 = .ok (.iconst (-1), 1) := by decide +kernel
theorem dX4_kind_8 : decode cX4_kind 8 = .ok (.ireturn, 1) := by decide +kernel
theorem dX4_kind_9 : decode cX4_kind 9 = .ok (.aload_n 0, 1) := by decide +kernel
theorem dX4_kind_10 : decode cX4_kind 10 = .ok (.getfield 14, 3) := by decide +kernel
theorem dX4_kind_13 : decode cX4_kind 13 = .ok (.ldc 166, 2) := by decide +kernel
theorem dX4_kind_15 : decode cX4_kind 15 = .ok (.invokevirtual 42, 3) := by decide +kernel
theorem dX4_kind_18 : decode cX4_kind 18 = .ok (.ifCond .eq 7, 3) := by decide +kernel
theorem dX4_kind_21 : decode cX4_kind 21 = .ok (.iconst 0, 1) := by decide +kernel
theorem dX4_kind_22 : decode cX4_kind 22 = .ok (.goto 36, 3) := by decide +kernel
theorem dX4_kind_25 : decode cX4_kind 25 = .ok (.aload_n 0, 1) := by decide +kernel
theorem dX4_kind_26 : decode cX4_kind 26 = .ok (.getfield 14, 3) := by decide +kernel
theorem dX4_kind_29 : decode cX4_kind 29 = .ok (.ldc 168, 2) := by decide +kernel
theorem dX4_kind_31 : decode cX4_kind 31 = .ok (.invokevirtual 42, 3) := by decide +kernel
theorem dX4_kind_34 : decode cX4_kind 34 = .ok (.ifCond .eq 7, 3) := by decide +kernel
theorem dX4_kind_37 : decode cX4_kind 37 = .ok (.iconst 1, 1) := by decide +kernel
theorem dX4_kind_38 : decode cX4_kind 38 = .ok (.goto 20, 3) := by decide +kernel
theorem dX4_kind_41 : decode cX4_kind 41 = .ok (.aload_n 0, 1) := by decide +kernel
theorem dX4_kind_42 : decode cX4_kind 42 = .ok (.getfield 14, 3) := by decide +kernel
theorem dX4_kind_45 : decode cX4_kind 45 = .ok (.ldc 170, 2) := by decide +kernel
theorem dX4_kind_47 : decode cX4_kind 47 = .ok (.invokevirtual 42, 3) := by decide +kernel
theorem dX4_kind_50 : decode cX4_kind 50 = .ok (.ifCond .eq 7, 3) := by decide +kernel
theorem dX4_kind_53 : decode cX4_kind 53 = .ok (.iconst 2, 1) := by decide +kernel
theorem dX4_kind_54 : decode cX4_kind 54 = .ok (.goto 4, 3) := by decide +kernel
theorem dX4_kind_57 : decode cX4_kind 57 = .ok (.iconst (-1), 1) := by decide +kernel
theorem dX4_kind_58 : decode cX4_kind 58 = .ok (.istore_n 1, 1) := by decide +kernel
theorem dX4_kind_59 : decode cX4_kind 59 = .ok (.iload_n 1, 1) := by decide +kernel
theorem dX4_kind_60 : decode cX4_kind 60 = .ok (.iconst (-1), 1) := by decide +kernel
theorem dX4_kind_61 : decode cX4_kind 61 = .ok (.if_icmp .ne 11, 3) := by decide +kernel
theorem dX4_kind_64 : decode cX4_kind 64 = .ok (.aload_n 0, 1) := by decide +kernel
theorem dX4_kind_65 : decode cX4_kind 65 = .ok (.iconst 1, 1) := by decide +kernel
theorem dX4_kind_66 : decode cX4_kind 66 = .ok (.invokevirtual 50, 3) := by decide +kernel
theorem dX4_kind_69 : decode cX4_kind 69 = .ok (.goto 10, 3) := by decide +kernel
theorem dX4_kind_72 : decode cX4_kind 72 = .ok (.aload_n 0, 1) := by decide +kernel
theorem dX4_kind_73 : decode cX4_kind 73 = .ok (.getfield 14, 3) := by decide +kernel
theorem dX4_kind_76 : decode cX4_kind 76 = .ok (.invokevirtual 85, 3) := by decide +kernel
theorem dX4_kind_79 : decode cX4_kind 79 = .ok (.iload_n 1, 1) := by decide +kernel
theorem dX4_kind_80 : decode cX4_kind 80 = .ok (.ireturn, 1) := by decide +kernel
theorem dX4_newName_0 : decode cX4_newName 0 = .ok (.aload_n 0, 1) := by decide +kernel
theorem dX4_newName_1 : decode cX4_newName 1 = .ok (.getfield 14, 3) := by decide +kernel
theorem dX4_newName_4 : decode cX4_newName 4 = .ok (.invokevirtual 172, 3) := by decide +kernel
theorem dX4_newName_7 : decode cX4_newName 7 = .ok (.istore_n 2, 1) := by decide +kernel
theorem dX4_newName_8 : decode cX4_newName 8 = .ok (.aload_n 0, 1) := by decide +kernel
theorem dX4_newName_9 : decode cX4_newName 9 = .ok (.getfield 14, 3) := by decide +kernel
theorem dX4_newName_12 : decode cX4_newName 12 = .ok (.getfield 53, 3) := by decide +kernel
theorem dX4_newName_15 : decode cX4_newName 15 = .ok (.iconst 1, 1) := by decide +kernel
theorem dX4_newName_16 : decode cX4_newName 16 = .ok (.if_icmp .eq 11, 3) := by decide +kernel
theorem dX4_newName_19 : decode cX4_newName 19 = .ok (.aload_n 0, 1) := by decide +kernel
theorem dX4_newName_20 : decode cX4_newName 20 = .ok (.iconst 1, 1) := by decide +kernel
theorem dX4_newName_21 : decode cX4_newName 21 = .ok (.invokevirtual 50, 3) := by decide +kernel
theorem dX4_newName_24 : decode cX4_newName 24 = .ok (.goto 39, 3) := by decide +kernel
theorem dX4_newName_27 : decode cX4_newName 27 = .ok (.iload_n 2, 1) := by decide +kernel
theorem dX4_newName_28 : decode cX4_newName 28 = .ok (.iconst (-1), 1) := by decide +kernel
theorem dX4_newName_29 : decode cX4_newName 29 = .ok (.if_icmp .ne 11, 3) := by decide +kernel
theorem dX4_newName_32 : decode cX4_newName 32 = .ok (.aload_n 0, 1) := by decide +kernel
theorem dX4_newName_33 : decode cX4_newName 33 = .ok (.iconst 2, 1) := by decide +kernel
theorem dX4_newName_34 : decode cX4_newName 34 = .ok (.invokevirtual 50, 3) := by decide +kernel
theorem dX4_newName_37 : decode cX4_newName 37 = .ok (.goto 26, 3) := by decide +kernel
theorem dX4_newName_40 : decode cX4_newName 40 = .ok (.aload_n 1, 1) := by decide +kernel
theorem dX4_newName_41 : decode cX4_newName 41 = .ok (.iload_n 2, 1) := by decide +kernel
theorem dX4_newName_42 : decode cX4_newName 42 = .ok (.invokevirtual 175, 3) := by decide +kernel
theorem dX4_newName_45 : decode cX4_newName 45 = .ok (.ifCond .eq 11, 3) := by decide +kernel
theorem dX4_newName_48 : decode cX4_newName 48 = .ok (.aload_n 0, 1) := by decide +kernel
theorem dX4_newName_49 : decode cX4_newName 49 = .ok (.iconst 3, 1) := by decide +kernel
theorem dX4_newName_50 : decode cX4_newName 50 = .ok (.invokevirtual 50, 3) := by decide +kernel
theorem dX4_newName_53 : decode cX4_newName 53 = .ok (.goto 10, 3) := by decide +kernel
theorem dX4_newName_56 : decode cX4_newName 56 = .ok (.aload_n 0, 1) := by decide +kernel
theorem dX4_newName_57 : decode cX4_newName 57 = .ok (.getfield 14, 3) := by decide +kernel
theorem dX4_newName_60 : decode cX4_newName 60 = .ok (.invokevirtual 85, 3) := by decide +kernel
theorem dX4_newName_63 : decode cX4_newName 63 = .ok (.iload_n 2, 1) := by decide +kernel
theorem dX4_newName_64 : decode cX4_newName 64 = .ok (.ireturn, 1) := by decide +kernel
theorem dX4_knownBaker_0 : decode cX4_knownBaker 0 = .ok (.aload_n 1, 1) := by decide +kernel
theorem dX4_knownBaker_1 : decode cX4_knownBaker 1 = .ok (.getfield 179, 3) := by decide +kernel
theorem dX4_knownBaker_4 : decode cX4_knownBaker 4 = .ok (.aload_n 1, 1) := by decide +kernel
theorem dX4_knownBaker_5 : decode cX4_knownBaker 5 = .ok (.getfield 103, 3) := by decide +kernel
theorem dX4_knownBaker_8 : decode cX4_knownBaker 8 = .ok (.aload_n 0, 1) := by decide +kernel
theorem dX4_knownBaker_9 : decode cX4_knownBaker 9 = .ok (.getfield 14, 3) := by decide +kernel
theorem dX4_knownBaker_12 : decode cX4_knownBaker 12 = .ok (.invokevirtual 172, 3) := by decide +kernel
theorem dX4_knownBaker_15 : decode cX4_knownBaker 15 = .ok (.invokestatic 181, 3) := by decide +kernel
theorem dX4_knownBaker_18 : decode cX4_knownBaker 18 = .ok (.istore_n 2, 1) := by decide +kernel
theorem dX4_knownBaker_19 : decode cX4_knownBaker 19 = .ok (.aload_n 0, 1) := by decide +kernel
theorem dX4_knownBaker_20 : decode cX4_knownBaker 20 = .ok (.getfield 14, 3) := by decide +kernel
theorem dX4_knownBaker_23 : decode cX4_knownBaker 23 = .ok (.getfield 53, 3) := by decide +kernel
theorem dX4_knownBaker_26 : decode cX4_knownBaker 26 = .ok (.iconst 1, 1) := by decide +kernel
theorem dX4_knownBaker_27 : decode cX4_knownBaker 27 = .ok (.if_icmp .eq 11, 3) := by decide +kernel
theorem dX4_knownBaker_30 : decode cX4_knownBaker 30 = .ok (.aload_n 0, 1) := by decide +kernel
theorem dX4_knownBaker_31 : decode cX4_knownBaker 31 = .ok (.iconst 1, 1) := by decide +kernel
theorem dX4_knownBaker_32 : decode cX4_knownBaker 32 = .ok (.invokevirtual 50, 3) := by decide +kernel
theorem dX4_knownBaker_35 : decode cX4_knownBaker 35 = .ok (.goto 23, 3) := by decide +kernel
theorem dX4_knownBaker_38 : decode cX4_knownBaker 38 = .ok (.iload_n 2, 1) := by decide +kernel
theorem dX4_knownBaker_39 : decode cX4_knownBaker 39 = .ok (.iconst (-1), 1) := by decide +kernel
theorem dX4_knownBaker_40 : decode cX4_knownBaker 40 = .ok (.if_icmp .ne 11, 3) := by decide +kernel
theorem dX4_knownBaker_43 : decode cX4_knownBaker 43 = .ok (.aload_n 0, 1) := by decide +kernel
theorem dX4_knownBaker_44 : decode cX4_knownBaker 44 = .ok (.iconst 4, 1) := by decide +kernel
theorem dX4_knownBaker_45 : decode cX4_knownBaker 45 = .ok (.invokevirtual 50, 3) := by decide +kernel
theorem dX4_knownBaker_48 : decode cX4_knownBaker 48 = .ok (.goto 10, 3) := by decide +kernel
theorem dX4_knownBaker_51 : decode cX4_knownBaker 51 = .ok (.aload_n 0, 1) := by decide +kernel
theorem dX4_knownBaker_52 : decode cX4_knownBaker 52 = .ok (.getfield 14, 3) := by decide +kernel
theorem dX4_knownBaker_55 : decode cX4_knownBaker 55 = .ok (.invokevirtual 85, 3) := by decide +kernel
theorem dX4_knownBaker_58 : decode cX4_knownBaker 58 = .ok (.iload_n 2, 1) := by decide +kernel
theorem dX4_knownBaker_59 : decode cX4_knownBaker 59 = .ok (.ireturn, 1) := by decide +kernel
theorem dX5_init_0 : decode cX5_init 0 = .ok (.aload_n 0, 1) := by decide +kernel
theorem dX5_init_1 : decode cX5_init 1 = .ok (.invokespecial 3, 3) := by decide +kernel
theorem dX5_init_4 : decode cX5_init 4 = .ok (.aload_n 0, 1) := by decide +kernel
theorem dX5_init_5 : decode cX5_init 5 = .ok (.iconst 3, 1) := by decide +kernel
theorem dX5_init_6 : decode cX5_init 6 = .ok (.newarray .int, 2) := by decide +kernel
theorem dX5_init_8 : decode cX5_init 8 = .ok (.putfield 9, 3) := by decide +kernel
theorem dX5_init_11 : decode cX5_init 11 = .ok (.aload_n 0, 1) := by decide +kernel
theorem dX5_init_12 : decode cX5_init 12 = .ok (.new 15, 3) := by decide +kernel
theorem dX5_init_15 : decode cX5_init 15 = .ok (.dup, 1) := by decide +kernel
theorem dX5_init_16 : decode cX5_init 16 = .ok (.invokespecial 17, 3) := by decide +kernel
theorem dX5_init_19 : decode cX5_init 19 = .ok (.putfield 18, 3) := by decide +kernel
theorem dX5_init_22 : decode cX5_init 22 = .ok (.aload_n 0, 1) := by decide +kernel
theorem dX5_init_23 : decode cX5_init 23 = .ok (.new 22, 3) := by decide +kernel
theorem dX5_init_26 : decode cX5_init 26 = .ok (.dup, 1) := by decide +kernel
theorem dX5_init_27 : decode cX5_init 27 = .ok (.invokespecial 24, 3) := by decide +kernel
theorem dX5_init_30 : decode cX5_init 30 = .ok (.putfield 25, 3) := by decide +kernel
theorem dX5_init_33 : decode cX5_init 33 = .ok (.aload_n 0, 1) := by decide +kernel
theorem dX5_init_34 : decode cX5_init 34 = .ok (.new 29, 3) := by decide +kernel
theorem dX5_init_37 : decode cX5_init 37 = .ok (.dup, 1) := by decide +kernel
theorem dX5_init_38 : decode cX5_init 38 = .ok (.invokespecial 31, 3) := by decide +kernel
theorem dX5_init_41 : decode cX5_init 41 = .ok (.putfield 32, 3) := by decide +kernel
theorem dX5_init_44 : decode cX5_init 44 = .ok (.aload_n 0, 1) := by decide +kernel
theorem dX5_init_45 : decode cX5_init 45 = .ok (.new 36, 3) := by decide +kernel
theorem dX5_init_48 : decode cX5_init 48 = .ok (.dup, 1) := by decide +kernel
theorem dX5_init_49 : decode cX5_init 49 = .ok (.invokespecial 38, 3) := by decide +kernel
theorem dX5_init_52 : decode cX5_init 52 = .ok (.putfield 39, 3) := by decide +kernel
theorem dX5_init_55 : decode cX5_init 55 = .ok (.return_, 1) := by decide +kernel
theorem dX5_clear_0 : decode cX5_clear 0 = .ok (.aload_n 0, 1) := by decide +kernel
theorem dX5_clear_1 : decode cX5_clear 1 = .ok (.getfield 18, 3) := by decide +kernel
theorem dX5_clear_4 : decode cX5_clear 4 = .ok (.iconst 0, 1) := by decide +kernel
theorem dX5_clear_5 : decode cX5_clear 5 = .ok (.putfield 43, 3) := by decide +kernel
theorem dX5_clear_8 : decode cX5_clear 8 = .ok (.aload_n 0, 1) := by decide +kernel
theorem dX5_clear_9 : decode cX5_clear 9 = .ok (.getfield 25, 3) := by decide +kernel
theorem dX5_clear_12 : decode cX5_clear 12 = .ok (.iconst 0, 1) := by decide +kernel
theorem dX5_clear_13 : decode cX5_clear 13 = .ok (.putfield 47, 3) := by decide +kernel
theorem dX5_clear_16 : decode cX5_clear 16 = .ok (.aload_n 0, 1) := by decide +kernel
theorem dX5_clear_17 : decode cX5_clear 17 = .ok (.getfield 32, 3) := by decide +kernel
theorem dX5_clear_20 : decode cX5_clear 20 = .ok (.iconst 0, 1) := by decide +kernel
theorem dX5_clear_21 : decode cX5_clear 21 = .ok (.putfield 48, 3) := by decide +kernel
theorem dX5_clear_24 : decode cX5_clear 24 = .ok (.aload_n 0, 1) := by decide +kernel
theorem dX5_clear_25 : decode cX5_clear 25 = .ok (.getfield 32, 3) := by decide +kernel
theorem dX5_clear_28 : decode cX5_clear 28 = .ok (.iconst 0, 1) := by decide +kernel
theorem dX5_clear_29 : decode cX5_clear 29 = .ok (.putfield 49, 3) := by decide +kernel
theorem dX5_clear_32 : decode cX5_clear 32 = .ok (.aload_n 0, 1) := by decide +kernel
theorem dX5_clear_33 : decode cX5_clear 33 = .ok (.getfield 39, 3) := by decide +kernel
theorem dX5_clear_36 : decode cX5_clear 36 = .ok (.iconst 0, 1) := by decide +kernel
theorem dX5_clear_37 : decode cX5_clear 37 = .ok (.putfield 52, 3) := by decide +kernel
theorem dX5_clear_40 : decode cX5_clear 40 = .ok (.aload_n 0, 1) := by decide +kernel
theorem dX5_clear_41 : decode cX5_clear 41 = .ok (.iconst 0, 1) := by decide +kernel
theorem dX5_clear_42 : decode cX5_clear 42 = .ok (.putfield 53, 3) := by decide +kernel
theorem dX5_clear_45 : decode cX5_clear 45 = .ok (.aload_n 0, 1) := by decide +kernel
theorem dX5_clear_46 : decode cX5_clear 46 = .ok (.iconst 0, 1) := by decide +kernel
theorem dX5_clear_47 : decode cX5_clear 47 = .ok (.putfield 56, 3) := by decide +kernel
theorem dX5_clear_50 : decode cX5_clear 50 = .ok (.aload_n 0, 1) := by decide +kernel
theorem dX5_clear_51 : decode cX5_clear 51 = .ok (.iconst 0, 1) := by decide +kernel
theorem dX5_clear_52 : decode cX5_clear 52 = .ok (.putfield 59, 3) := by decide +kernel
theorem dX5_clear_55 : decode cX5_clear 55 = .ok (.aload_n 0, 1) := by decide +kernel
theorem dX5_clear_56 : decode cX5_clear 56 = .ok (.iconst 0, 1) := by decide +kernel
theorem dX5_clear_57 : decode cX5_clear 57 = .ok (.putfield 62, 3) := by decide +kernel
theorem dX5_clear_60 : decode cX5_clear 60 = .ok (.aload_n 0, 1) := by decide +kernel
theorem dX5_clear_61 : decode cX5_clear 61 = .ok (.iconst 0, 1) := by decide +kernel
theorem dX5_clear_62 : decode cX5_clear 62 = .ok (.putfield 65, 3) := by decide +kernel
theorem dX5_clear_65 : decode cX5_clear 65 = .ok (.aload_n 0, 1) := by decide +kernel
theorem dX5_clear_66 : decode cX5_clear 66 = .ok (.iconst 0, 1) := by decide +kernel
theorem dX5_clear_67 : decode cX5_clear 67 = .ok (.putfield 68, 3) := by decide +kernel
theorem dX5_clear_70 : decode cX5_clear 70 = .ok (.aload_n 0, 1) := by decide +kernel
theorem dX5_clear_71 : decode cX5_clear 71 = .ok (.iconst 0, 1) := by decide +kernel
theorem dX5_clear_72 : decode cX5_clear 72 = .ok (.putfield 71, 3) := by decide +kernel
theorem dX5_clear_75 : decode cX5_clear 75 = .ok (.aload_n 0, 1) := by decide +kernel
theorem dX5_clear_76 : decode cX5_clear 76 = .ok (.iconst 0, 1) := by decide +kernel
theorem dX5_clear_77 : decode cX5_clear 77 = .ok (.putfield 74, 3) := by decide +kernel
theorem dX5_clear_80 : decode cX5_clear 80 = .ok (.return_, 1) := by decide +kernel
theorem dX5_copyFrom_0 : decode cX5_copyFrom 0 = .ok (.aload_n 1, 1) := by decide +kernel
theorem dX5_copyFrom_1 : decode cX5_copyFrom 1 = .ok (.getfield 9, 3) := by decide +kernel
theorem dX5_copyFrom_4 : decode cX5_copyFrom 4 = .ok (.aload_n 0, 1) := by decide +kernel
theorem dX5_copyFrom_5 : decode cX5_copyFrom 5 = .ok (.getfield 9, 3) := by decide +kernel
theorem dX5_copyFrom_8 : decode cX5_copyFrom 8 = .ok (.invokestatic 77, 3) := by decide +kernel
theorem dX5_copyFrom_11 : decode cX5_copyFrom 11 = .ok (.aload_n 0, 1) := by decide +kernel
theorem dX5_copyFrom_12 : decode cX5_copyFrom 12 = .ok (.getfield 18, 3) := by decide +kernel
theorem dX5_copyFrom_15 : decode cX5_copyFrom 15 = .ok (.aload_n 1, 1) := by decide +kernel
theorem dX5_copyFrom_16 : decode cX5_copyFrom 16 = .ok (.getfield 18, 3) := by decide +kernel
theorem dX5_copyFrom_19 : decode cX5_copyFrom 19 = .ok (.invokevirtual 81, 3) := by decide +kernel
theorem dX5_copyFrom_22 : decode cX5_copyFrom 22 = .ok (.aload_n 0, 1) := by decide +kernel
theorem dX5_copyFrom_23 : decode cX5_copyFrom 23 = .ok (.getfield 25, 3) := by decide +kernel
theorem dX5_copyFrom_26 : decode cX5_copyFrom 26 = .ok (.aload_n 1, 1) := by decide +kernel
theorem dX5_copyFrom_27 : decode cX5_copyFrom 27 = .ok (.getfield 25, 3) := by decide +kernel
theorem dX5_copyFrom_30 : decode cX5_copyFrom 30 = .ok (.invokevirtual 85, 3) := by decide +kernel
theorem dX5_copyFrom_33 : decode cX5_copyFrom 33 = .ok (.aload_n 0, 1) := by decide +kernel
theorem dX5_copyFrom_34 : decode cX5_copyFrom 34 = .ok (.getfield 32, 3) := by decide +kernel
theorem dX5_copyFrom_37 : decode cX5_copyFrom 37 = .ok (.aload_n 1, 1) := by decide +kernel
theorem dX5_copyFrom_38 : decode cX5_copyFrom 38 = .ok (.getfield 32, 3) := by decide +kernel
theorem dX5_copyFrom_41 : decode cX5_copyFrom 41 = .ok (.invokevirtual 88, 3) := by decide +kernel
theorem dX5_copyFrom_44 : decode cX5_copyFrom 44 = .ok (.aload_n 0, 1) := by decide +kernel
theorem dX5_copyFrom_45 : decode cX5_copyFrom 45 = .ok (.getfield 39, 3) := by decide +kernel
theorem dX5_copyFrom_48 : decode cX5_copyFrom 48 = .ok (.aload_n 1, 1) := by decide +kernel
theorem dX5_copyFrom_49 : decode cX5_copyFrom 49 = .ok (.getfield 39, 3) := by decide +kernel
theorem dX5_copyFrom_52 : decode cX5_copyFrom 52 = .ok (.invokevirtual 91, 3) := by decide +kernel
theorem dX5_copyFrom_55 : decode cX5_copyFrom 55 = .ok (.aload_n 0, 1) := by decide +kernel
theorem dX5_copyFrom_56 : decode cX5_copyFrom 56 = .ok (.aload_n 1, 1) := by decide +kernel
theorem dX5_copyFrom_57 : decode cX5_copyFrom 57 = .ok (.getfield 53, 3) := by decide +kernel
theorem dX5_copyFrom_60 : decode cX5_copyFrom 60 = .ok (.putfield 53, 3) := by decide +kernel
theorem dX5_copyFrom_63 : decode cX5_copyFrom 63 = .ok (.aload_n 0, 1) := by decide +kernel
theorem dX5_copyFrom_64 : decode cX5_copyFrom 64 = .ok (.aload_n 1, 1) := by decide +kernel
theorem dX5_copyFrom_65 : decode cX5_copyFrom 65 = .ok (.getfield 56, 3) := by decide +kernel
theorem dX5_copyFrom_68 : decode cX5_copyFrom 68 = .ok (.putfield 56, 3) := by decide +kernel
theorem dX5_copyFrom_71 : decode cX5_copyFrom 71 = .ok (.aload_n 0, 1) := by decide +kernel
theorem dX5_copyFrom_72 : decode cX5_copyFrom 72 = .ok (.aload_n 1, 1) := by decide +kernel
theorem dX5_copyFrom_73 : decode cX5_copyFrom 73 = .ok (.getfield 59, 3) := by decide +kernel
theorem dX5_copyFrom_76 : decode cX5_copyFrom 76 = .ok (.putfield 59, 3) := by decide +kernel
theorem dX5_copyFrom_79 : decode cX5_copyFrom 79 = .ok (.aload_n 0, 1) := by decide +kernel
theorem dX5_copyFrom_80 : decode cX5_copyFrom 80 = .ok (.aload_n 1, 1) := by decide +kernel
theorem dX5_copyFrom_81 : decode cX5_copyFrom 81 = .ok (.getfield 62, 3) := by decide +kernel
theorem dX5_copyFrom_84 : decode cX5_copyFrom 84 = .ok (.putfield 62, 3) := by decide +kernel
theorem dX5_copyFrom_87 : decode cX5_copyFrom 87 = .ok (.aload_n 0, 1) := by decide +kernel
theorem dX5_copyFrom_88 : decode cX5_copyFrom 88 = .ok (.aload_n 1, 1) := by decide +kernel
theorem dX5_copyFrom_89 : decode cX5_copyFrom 89 = .ok (.getfield 65, 3) := by decide +kernel
theorem dX5_copyFrom_92 : decode cX5_copyFrom 92 = .ok (.putfield 65, 3) := by decide +kernel
theorem dX5_copyFrom_95 : decode cX5_copyFrom 95 = .ok (.aload_n 0, 1) := by decide +kernel
theorem dX5_copyFrom_96 : decode cX5_copyFrom 96 = .ok (.aload_n 1, 1) := by decide +kernel
theorem dX5_copyFrom_97 : decode cX5_copyFrom 97 = .ok (.getfield 68, 3) := by decide +kernel
theorem dX5_copyFrom_100 : decode cX5_copyFrom 100 = .ok (.putfield 68, 3) := by decide +kernel
theorem dX5_copyFrom_103 : decode cX5_copyFrom 103 = .ok (.aload_n 0, 1) := by decide +kernel
theorem dX5_copyFrom_104 : decode cX5_copyFrom 104 = .ok (.aload_n 1, 1) := by decide +kernel
theorem dX5_copyFrom_105 : decode cX5_copyFrom 105 = .ok (.getfield 71, 3) := by decide +kernel
theorem dX5_copyFrom_108 : decode cX5_copyFrom 108 = .ok (.putfield 71, 3) := by decide +kernel
theorem dX5_copyFrom_111 : decode cX5_copyFrom 111 = .ok (.aload_n 0, 1) := by decide +kernel
theorem dX5_copyFrom_112 : decode cX5_copyFrom 112 = .ok (.aload_n 1, 1) := by decide +kernel
theorem dX5_copyFrom_113 : decode cX5_copyFrom 113 = .ok (.getfield 74, 3) := by decide +kernel
theorem dX5_copyFrom_116 : decode cX5_copyFrom 116 = .ok (.putfield 74, 3) := by decide +kernel
theorem dX5_copyFrom_119 : decode cX5_copyFrom 119 = .ok (.return_, 1) := by decide +kernel
theorem dX5_baseOf_0 : decode cX5_baseOf 0 = .ok (.iload_n 1, 1) := by decide +kernel
theorem dX5_baseOf_1 : decode cX5_baseOf 1 = .ok (.ifCond .lt 17, 3) := by decide +kernel
theorem dX5_baseOf_4 : decode cX5_baseOf 4 = .ok (.iload_n 1, 1) := by decide +kernel
theorem dX5_baseOf_5 : decode cX5_baseOf 5 = .ok (.iconst 3, 1) := by decide +kernel
theorem dX5_baseOf_6 : decode cX5_baseOf 6 = .ok (.if_icmp .ge 12, 3) := by decide +kernel
theorem dX5_baseOf_9 : decode cX5_baseOf 9 = .ok (.aload_n 0, 1) := by decide +kernel
theorem dX5_baseOf_10 : decode cX5_baseOf 10 = .ok (.getfield 9, 3) := by decide +kernel
theorem dX5_baseOf_13 : decode cX5_baseOf 13 = .ok (.iload_n 1, 1) := by decide +kernel
theorem dX5_baseOf_14 : decode cX5_baseOf 14 = .ok (.iaload, 1) := by decide +kernel
theorem dX5_baseOf_15 : decode cX5_baseOf 15 = .ok (.goto 4, 3) := by decide +kernel
theorem dX5_baseOf_18 : decode cX5_baseOf 18 = .ok (.iconst 0, 1) := by decide +kernel
theorem dX5_baseOf_19 : decode cX5_baseOf 19 = .ok (.ireturn, 1) := by decide +kernel
theorem dX5_ageOf_0 : decode cX5_ageOf 0 = .ok (.iload_n 1, 1) := by decide +kernel
theorem dX5_ageOf_1 : decode cX5_ageOf 1 = .ok (.ifCond .lt 31, 3) := by decide +kernel
theorem dX5_ageOf_4 : decode cX5_ageOf 4 = .ok (.iload_n 1, 1) := by decide +kernel
theorem dX5_ageOf_5 : decode cX5_ageOf 5 = .ok (.aload_n 0, 1) := by decide +kernel
theorem dX5_ageOf_6 : decode cX5_ageOf 6 = .ok (.getfield 25, 3) := by decide +kernel
theorem dX5_ageOf_9 : decode cX5_ageOf 9 = .ok (.getfield 47, 3) := by decide +kernel
theorem dX5_ageOf_12 : decode cX5_ageOf 12 = .ok (.if_icmp .ge 20, 3) := by decide +kernel
theorem dX5_ageOf_15 : decode cX5_ageOf 15 = .ok (.aload_n 0, 1) := by decide +kernel
theorem dX5_ageOf_16 : decode cX5_ageOf 16 = .ok (.getfield 53, 3) := by decide +kernel
theorem dX5_ageOf_19 : decode cX5_ageOf 19 = .ok (.aload_n 0, 1) := by decide +kernel
theorem dX5_ageOf_20 : decode cX5_ageOf 20 = .ok (.getfield 25, 3) := by decide +kernel
theorem dX5_ageOf_23 : decode cX5_ageOf 23 = .ok (.getfield 94, 3) := by decide +kernel
theorem dX5_ageOf_26 : decode cX5_ageOf 26 = .ok (.iload_n 1, 1) := by decide +kernel
theorem dX5_ageOf_27 : decode cX5_ageOf 27 = .ok (.iaload, 1) := by decide +kernel
theorem dX5_ageOf_28 : decode cX5_ageOf 28 = .ok (.isub, 1) := by decide +kernel
theorem dX5_ageOf_29 : decode cX5_ageOf 29 = .ok (.goto 4, 3) := by decide +kernel
theorem dX5_ageOf_32 : decode cX5_ageOf 32 = .ok (.iconst 0, 1) := by decide +kernel
theorem dX5_ageOf_33 : decode cX5_ageOf 33 = .ok (.ireturn, 1) := by decide +kernel
theorem dX5_reserveOf_0 : decode cX5_reserveOf 0 = .ok (.iload_n 1, 1) := by decide +kernel
theorem dX5_reserveOf_1 : decode cX5_reserveOf 1 = .ok (.ifCond .lt 14, 3) := by decide +kernel
theorem dX5_reserveOf_4 : decode cX5_reserveOf 4 = .ok (.iload_n 1, 1) := by decide +kernel
theorem dX5_reserveOf_5 : decode cX5_reserveOf 5 = .ok (.aload_n 0, 1) := by decide +kernel
theorem dX5_reserveOf_6 : decode cX5_reserveOf 6 = .ok (.getfield 25, 3) := by decide +kernel
theorem dX5_reserveOf_9 : decode cX5_reserveOf 9 = .ok (.getfield 47, 3) := by decide +kernel
theorem dX5_reserveOf_12 : decode cX5_reserveOf 12 = .ok (.if_icmp .lt 5, 3) := by decide +kernel
theorem dX5_reserveOf_15 : decode cX5_reserveOf 15 = .ok (.iconst 0, 1) := by decide +kernel
theorem dX5_reserveOf_16 : decode cX5_reserveOf 16 = .ok (.ireturn, 1) := by decide +kernel
theorem dX5_reserveOf_17 : decode cX5_reserveOf 17 = .ok (.aload_n 0, 1) := by decide +kernel
theorem dX5_reserveOf_18 : decode cX5_reserveOf 18 = .ok (.getfield 25, 3) := by decide +kernel
theorem dX5_reserveOf_21 : decode cX5_reserveOf 21 = .ok (.getfield 97, 3) := by decide +kernel
theorem dX5_reserveOf_24 : decode cX5_reserveOf 24 = .ok (.iload_n 1, 1) := by decide +kernel
theorem dX5_reserveOf_25 : decode cX5_reserveOf 25 = .ok (.iaload, 1) := by decide +kernel
theorem dX5_reserveOf_26 : decode cX5_reserveOf 26 = .ok (.istore_n 2, 1) := by decide +kernel
theorem dX5_reserveOf_27 : decode cX5_reserveOf 27 = .ok (.iload_n 2, 1) := by decide +kernel
theorem dX5_reserveOf_28 : decode cX5_reserveOf 28 = .ok (.aload_n 0, 1) := by decide +kernel
theorem dX5_reserveOf_29 : decode cX5_reserveOf 29 = .ok (.iload_n 2, 1) := by decide +kernel
theorem dX5_reserveOf_30 : decode cX5_reserveOf 30 = .ok (.invokevirtual 100, 3) := by decide +kernel
theorem dX5_reserveOf_33 : decode cX5_reserveOf 33 = .ok (.aload_n 0, 1) := by decide +kernel
theorem dX5_reserveOf_34 : decode cX5_reserveOf 34 = .ok (.getfield 53, 3) := by decide +kernel
theorem dX5_reserveOf_37 : decode cX5_reserveOf 37 = .ok (.aload_n 0, 1) := by decide +kernel
theorem dX5_reserveOf_38 : decode cX5_reserveOf 38 = .ok (.getfield 25, 3) := by decide +kernel
theorem dX5_reserveOf_41 : decode cX5_reserveOf 41 = .ok (.getfield 94, 3) := by decide +kernel
theorem dX5_reserveOf_44 : decode cX5_reserveOf 44 = .ok (.iload_n 1, 1) := by decide +kernel
theorem dX5_reserveOf_45 : decode cX5_reserveOf 45 = .ok (.iaload, 1) := by decide +kernel
theorem dX5_reserveOf_46 : decode cX5_reserveOf 46 = .ok (.isub, 1) := by decide +kernel
theorem dX5_reserveOf_47 : decode cX5_reserveOf 47 = .ok (.invokestatic 104, 3) := by decide +kernel
theorem dX5_reserveOf_50 : decode cX5_reserveOf 50 = .ok (.ireturn, 1) := by decide +kernel
theorem dX5_hasName_0 : decode cX5_hasName 0 = .ok (.aload_n 0, 1) := by decide +kernel
theorem dX5_hasName_1 : decode cX5_hasName 1 = .ok (.getfield 18, 3) := by decide +kernel
theorem dX5_hasName_4 : decode cX5_hasName 4 = .ok (.getfield 108, 3) := by decide +kernel
theorem dX5_hasName_7 : decode cX5_hasName 7 = .ok (.aload_n 0, 1) := by decide +kernel
theorem dX5_hasName_8 : decode cX5_hasName 8 = .ok (.getfield 18, 3) := by decide +kernel
theorem dX5_hasName_11 : decode cX5_hasName 11 = .ok (.getfield 43, 3) := by decide +kernel
theorem dX5_hasName_14 : decode cX5_hasName 14 = .ok (.iload_n 1, 1) := by decide +kernel
theorem dX5_hasName_15 : decode cX5_hasName 15 = .ok (.invokestatic 111, 3) := by decide +kernel
theorem dX5_hasName_18 : decode cX5_hasName 18 = .ok (.iconst (-1), 1) := by decide +kernel
theorem dX5_hasName_19 : decode cX5_hasName 19 = .ok (.if_icmp .ne 25, 3) := by decide +kernel
theorem dX5_hasName_22 : decode cX5_hasName 22 = .ok (.aload_n 0, 1) := by decide +kernel
theorem dX5_hasName_23 : decode cX5_hasName 23 = .ok (.getfield 32, 3) := by decide +kernel
theorem dX5_hasName_26 : decode cX5_hasName 26 = .ok (.getfield 115, 3) := by decide +kernel
theorem dX5_hasName_29 : decode cX5_hasName 29 = .ok (.aload_n 0, 1) := by decide +kernel
theorem dX5_hasName_30 : decode cX5_hasName 30 = .ok (.getfield 32, 3) := by decide +kernel
theorem dX5_hasName_33 : decode cX5_hasName 33 = .ok (.getfield 48, 3) := by decide +kernel
theorem dX5_hasName_36 : decode cX5_hasName 36 = .ok (.iload_n 1, 1) := by decide +kernel
theorem dX5_hasName_37 : decode cX5_hasName 37 = .ok (.invokestatic 111, 3) := by decide +kernel
theorem dX5_hasName_40 : decode cX5_hasName 40 = .ok (.iconst (-1), 1) := by decide +kernel
theorem dX5_hasName_41 : decode cX5_hasName 41 = .ok (.if_icmp .eq 7, 3) := by decide +kernel
theorem dX5_hasName_44 : decode cX5_hasName 44 = .ok (.iconst 1, 1) := by decide +kernel
theorem dX5_hasName_45 : decode cX5_hasName 45 = .ok (.goto 4, 3) := by decide +kernel
theorem dX5_hasName_48 : decode cX5_hasName 48 = .ok (.iconst 0, 1) := by decide +kernel
theorem dX5_hasName_49 : decode cX5_hasName 49 = .ok (.ireturn, 1) := by decide +kernel
theorem dX5_refusal_0 : decode cX5_refusal 0 = .ok (.iload_n 1, 1) := by decide +kernel
theorem dX5_refusal_1 : decode cX5_refusal 1 = .ok (.ifCond .lt 27, 3) := by decide +kernel
theorem dX5_refusal_4 : decode cX5_refusal 4 = .ok (.iload_n 1, 1) := by decide +kernel
theorem dX5_refusal_5 : decode cX5_refusal 5 = .ok (.aload_n 0, 1) := by decide +kernel
theorem dX5_refusal_6 : decode cX5_refusal 6 = .ok (.getfield 18, 3) := by decide +kernel
theorem dX5_refusal_9 : decode cX5_refusal 9 = .ok (.getfield 43, 3) := by decide +kernel
theorem dX5_refusal_12 : decode cX5_refusal 12 = .ok (.if_icmp .ge 16, 3) := by decide +kernel
theorem dX5_refusal_15 : decode cX5_refusal 15 = .ok (.aload_n 0, 1) := by decide +kernel
theorem dX5_refusal_16 : decode cX5_refusal 16 = .ok (.getfield 18, 3) := by decide +kernel
theorem dX5_refusal_19 : decode cX5_refusal 19 = .ok (.getfield 116, 3) := by decide +kernel
theorem dX5_refusal_22 : decode cX5_refusal 22 = .ok (.iload_n 1, 1) := by decide +kernel
theorem dX5_refusal_23 : decode cX5_refusal 23 = .ok (.iaload, 1) := by decide +kernel
theorem dX5_refusal_24 : decode cX5_refusal 24 = .ok (.iconst (-1), 1) := by decide +kernel
theorem dX5_refusal_25 : decode cX5_refusal 25 = .ok (.if_icmp .eq 5, 3) := by decide +kernel
theorem dX5_refusal_28 : decode cX5_refusal 28 = .ok (.iconst 1, 1) := by decide +kernel
theorem dX5_refusal_29 : decode cX5_refusal 29 = .ok (.ireturn, 1) := by decide +kernel
theorem dX5_refusal_30 : decode cX5_refusal 30 = .ok (.aload_n 0, 1) := by decide +kernel
theorem dX5_refusal_31 : decode cX5_refusal 31 = .ok (.getfield 25, 3) := by decide +kernel
theorem dX5_refusal_34 : decode cX5_refusal 34 = .ok (.getfield 47, 3) := by decide +kernel
theorem dX5_refusal_37 : decode cX5_refusal 37 = .ok (.aload_n 0, 1) := by decide +kernel
theorem dX5_refusal_38 : decode cX5_refusal 38 = .ok (.getfield 18, 3) := by decide +kernel
theorem dX5_refusal_41 : decode cX5_refusal 41 = .ok (.invokevirtual 117, 3) := by decide +kernel
theorem dX5_refusal_44 : decode cX5_refusal 44 = .ok (.iadd, 1) := by decide +kernel
theorem dX5_refusal_45 : decode cX5_refusal 45 = .ok (.aload_n 0, 1) := by decide +kernel
theorem dX5_refusal_46 : decode cX5_refusal 46 = .ok (.getfield 18, 3) := by decide +kernel
theorem dX5_refusal_49 : decode cX5_refusal 49 = .ok (.getfield 121, 3) := by decide +kernel
theorem dX5_refusal_52 : decode cX5_refusal 52 = .ok (.iload_n 1, 1) := by decide +kernel
theorem dX5_refusal_53 : decode cX5_refusal 53 = .ok (.iaload, 1) := by decide +kernel
theorem dX5_refusal_54 : decode cX5_refusal 54 = .ok (.iadd, 1) := by decide +kernel
theorem dX5_refusal_55 : decode cX5_refusal 55 = .ok (.bipush 60, 2) := by decide +kernel
theorem dX5_refusal_57 : decode cX5_refusal 57 = .ok (.if_icmp .le 7, 3) := by decide +kernel
theorem dX5_refusal_60 : decode cX5_refusal 60 = .ok (.iconst 2, 1) := by decide +kernel
theorem dX5_refusal_61 : decode cX5_refusal 61 = .ok (.goto 4, 3) := by decide +kernel
theorem dX5_refusal_64 : decode cX5_refusal 64 = .ok (.iconst 0, 1) := by decide +kernel
theorem dX5_refusal_65 : decode cX5_refusal 65 = .ok (.ireturn, 1) := by decide +kernel
theorem dX5_welcome_0 : decode cX5_welcome 0 = .ok (.aload_n 0, 1) := by decide +kernel
theorem dX5_welcome_1 : decode cX5_welcome 1 = .ok (.dup, 1) := by decide +kernel
theorem dX5_welcome_2 : decode cX5_welcome 2 = .ok (.getfield 71, 3) := by decide +kernel
theorem dX5_welcome_5 : decode cX5_welcome 5 = .ok (.iload 5, 2) := by decide +kernel
theorem dX5_welcome_7 : decode cX5_welcome 7 = .ok (.iadd, 1) := by decide +kernel
theorem dX5_welcome_8 : decode cX5_welcome 8 = .ok (.putfield 71, 3) := by decide +kernel
theorem dX5_welcome_11 : decode cX5_welcome 11 = .ok (.aload_n 0, 1) := by decide +kernel
theorem dX5_welcome_12 : decode cX5_welcome 12 = .ok (.getfield 32, 3) := by decide +kernel
theorem dX5_welcome_15 : decode cX5_welcome 15 = .ok (.iload_n 1, 1) := by decide +kernel
theorem dX5_welcome_16 : decode cX5_welcome 16 = .ok (.iload_n 2, 1) := by decide +kernel
theorem dX5_welcome_17 : decode cX5_welcome 17 = .ok (.iload_n 3, 1) := by decide +kernel
theorem dX5_welcome_18 : decode cX5_welcome 18 = .ok (.iload 4, 2) := by decide +kernel
theorem dX5_welcome_20 : decode cX5_welcome 20 = .ok (.iload 5, 2) := by decide +kernel
theorem dX5_welcome_22 : decode cX5_welcome 22 = .ok (.iload 6, 2) := by decide +kernel
theorem dX5_welcome_24 : decode cX5_welcome 24 = .ok (.invokevirtual 124, 3) := by decide +kernel
theorem dX5_welcome_27 : decode cX5_welcome 27 = .ok (.ireturn, 1) := by decide +kernel
theorem dX5_dismiss_0 : decode cX5_dismiss 0 = .ok (.iload_n 1, 1) := by decide +kernel
theorem dX5_dismiss_1 : decode cX5_dismiss 1 = .ok (.ifCond .lt 60, 3) := by decide +kernel
theorem dX5_dismiss_4 : decode cX5_dismiss 4 = .ok (.iload_n 1, 1) := by decide +kernel
theorem dX5_dismiss_5 : decode cX5_dismiss 5 = .ok (.aload_n 0, 1) := by decide +kernel
theorem dX5_dismiss_6 : decode cX5_dismiss 6 = .ok (.getfield 32, 3) := by decide +kernel
theorem dX5_dismiss_9 : decode cX5_dismiss 9 = .ok (.getfield 48, 3) := by decide +kernel
theorem dX5_dismiss_12 : decode cX5_dismiss 12 = .ok (.if_icmp .ge 49, 3) := by decide +kernel
theorem dX5_dismiss_15 : decode cX5_dismiss 15 = .ok (.aload_n 0, 1) := by decide +kernel
theorem dX5_dismiss_16 : decode cX5_dismiss 16 = .ok (.getfield 39, 3) := by decide +kernel
theorem dX5_dismiss_19 : decode cX5_dismiss 19 = .ok (.iconst 3, 1) := by decide +kernel
theorem dX5_dismiss_20 : decode cX5_dismiss 20 = .ok (.aload_n 0, 1) := by decide +kernel
theorem dX5_dismiss_21 : decode cX5_dismiss 21 = .ok (.getfield 32, 3) := by decide +kernel
theorem dX5_dismiss_24 : decode cX5_dismiss 24 = .ok (.getfield 128, 3) := by decide +kernel
theorem dX5_dismiss_27 : decode cX5_dismiss 27 = .ok (.iload_n 1, 1) := by decide +kernel
theorem dX5_dismiss_28 : decode cX5_dismiss 28 = .ok (.iaload, 1) := by decide +kernel
theorem dX5_dismiss_29 : decode cX5_dismiss 29 = .ok (.iload_n 2, 1) := by decide +kernel
theorem dX5_dismiss_30 : decode cX5_dismiss 30 = .ok (.invokevirtual 131, 3) := by decide +kernel
theorem dX5_dismiss_33 : decode cX5_dismiss 33 = .ok (.aload_n 0, 1) := by decide +kernel
theorem dX5_dismiss_34 : decode cX5_dismiss 34 = .ok (.dup, 1) := by decide +kernel
theorem dX5_dismiss_35 : decode cX5_dismiss 35 = .ok (.getfield 74, 3) := by decide +kernel
theorem dX5_dismiss_38 : decode cX5_dismiss 38 = .ok (.aload_n 0, 1) := by decide +kernel
theorem dX5_dismiss_39 : decode cX5_dismiss 39 = .ok (.getfield 32, 3) := by decide +kernel
theorem dX5_dismiss_42 : decode cX5_dismiss 42 = .ok (.getfield 134, 3) := by decide +kernel
theorem dX5_dismiss_45 : decode cX5_dismiss 45 = .ok (.iload_n 1, 1) := by decide +kernel
theorem dX5_dismiss_46 : decode cX5_dismiss 46 = .ok (.iaload, 1) := by decide +kernel
theorem dX5_dismiss_47 : decode cX5_dismiss 47 = .ok (.iadd, 1) := by decide +kernel
theorem dX5_dismiss_48 : decode cX5_dismiss 48 = .ok (.putfield 74, 3) := by decide +kernel
theorem dX5_dismiss_51 : decode cX5_dismiss 51 = .ok (.aload_n 0, 1) := by decide +kernel
theorem dX5_dismiss_52 : decode cX5_dismiss 52 = .ok (.getfield 32, 3) := by decide +kernel
theorem dX5_dismiss_55 : decode cX5_dismiss 55 = .ok (.getfield 128, 3) := by decide +kernel
theorem dX5_dismiss_58 : decode cX5_dismiss 58 = .ok (.iload_n 1, 1) := by decide +kernel
theorem dX5_dismiss_59 : decode cX5_dismiss 59 = .ok (.iconst (-1), 1) := by decide +kernel
theorem dX5_dismiss_60 : decode cX5_dismiss 60 = .ok (.iastore, 1) := by decide +kernel
theorem dX5_dismiss_61 : decode cX5_dismiss 61 = .ok (.return_, 1) := by decide +kernel
theorem dX5_passHour_0 : decode cX5_passHour 0 = .ok (.aload_n 0, 1) := by decide +kernel
theorem dX5_passHour_1 : decode cX5_passHour 1 = .ok (.dup, 1) := by decide +kernel
theorem dX5_passHour_2 : decode cX5_passHour 2 = .ok (.getfield 53, 3) := by decide +kernel
theorem dX5_passHour_5 : decode cX5_passHour 5 = .ok (.iconst 1, 1) := by decide +kernel
theorem dX5_passHour_6 : decode cX5_passHour 6 = .ok (.iadd, 1) := by decide +kernel
theorem dX5_passHour_7 : decode cX5_passHour 7 = .ok (.putfield 53, 3) := by decide +kernel
theorem dX5_passHour_10 : decode cX5_passHour 10 = .ok (.aload_n 0, 1) := by decide +kernel
theorem dX5_passHour_11 : decode cX5_passHour 11 = .ok (.invokevirtual 137, 3) := by decide +kernel
theorem dX5_passHour_14 : decode cX5_passHour 14 = .ok (.aload_n 0, 1) := by decide +kernel
theorem dX5_passHour_15 : decode cX5_passHour 15 = .ok (.invokevirtual 140, 3) := by decide +kernel
theorem dX5_passHour_18 : decode cX5_passHour 18 = .ok (.aload_n 0, 1) := by decide +kernel
theorem dX5_passHour_19 : decode cX5_passHour 19 = .ok (.invokevirtual 143, 3) := by decide +kernel
theorem dX5_passHour_22 : decode cX5_passHour 22 = .ok (.aload_n 0, 1) := by decide +kernel
theorem dX5_passHour_23 : decode cX5_passHour 23 = .ok (.invokevirtual 146, 3) := by decide +kernel
theorem dX5_passHour_26 : decode cX5_passHour 26 = .ok (.return_, 1) := by decide +kernel
theorem dX5_emptyOvens_0 : decode cX5_emptyOvens 0 = .ok (.iconst 0, 1) := by decide +kernel
theorem dX5_emptyOvens_1 : decode cX5_emptyOvens 1 = .ok (.istore_n 1, 1) := by decide +kernel
theorem dX5_emptyOvens_2 : decode cX5_emptyOvens 2 = .ok (.iload_n 1, 1) := by decide +kernel
theorem dX5_emptyOvens_3 : decode cX5_emptyOvens 3 = .ok (.aload_n 0, 1) := by decide +kernel
theorem dX5_emptyOvens_4 : decode cX5_emptyOvens 4 = .ok (.getfield 18, 3) := by decide +kernel
theorem dX5_emptyOvens_7 : decode cX5_emptyOvens 7 = .ok (.getfield 43, 3) := by decide +kernel
theorem dX5_emptyOvens_10 : decode cX5_emptyOvens 10 = .ok (.if_icmp .ge 121, 3) := by decide +kernel
theorem dX5_emptyOvens_13 : decode cX5_emptyOvens 13 = .ok (.aload_n 0, 1) := by decide +kernel
theorem dX5_emptyOvens_14 : decode cX5_emptyOvens 14 = .ok (.getfield 18, 3) := by decide +kernel
theorem dX5_emptyOvens_17 : decode cX5_emptyOvens 17 = .ok (.getfield 116, 3) := by decide +kernel
theorem dX5_emptyOvens_20 : decode cX5_emptyOvens 20 = .ok (.iload_n 1, 1) := by decide +kernel
theorem dX5_emptyOvens_21 : decode cX5_emptyOvens 21 = .ok (.iaload, 1) := by decide +kernel
theorem dX5_emptyOvens_22 : decode cX5_emptyOvens 22 = .ok (.iconst (-1), 1) := by decide +kernel
theorem dX5_emptyOvens_23 : decode cX5_emptyOvens 23 = .ok (.if_icmp .eq 102, 3) := by decide +kernel
theorem dX5_emptyOvens_26 : decode cX5_emptyOvens 26 = .ok (.aload_n 0, 1) := by decide +kernel
theorem dX5_emptyOvens_27 : decode cX5_emptyOvens 27 = .ok (.getfield 18, 3) := by decide +kernel
theorem dX5_emptyOvens_30 : decode cX5_emptyOvens 30 = .ok (.getfield 149, 3) := by decide +kernel
theorem dX5_emptyOvens_33 : decode cX5_emptyOvens 33 = .ok (.iload_n 1, 1) := by decide +kernel
theorem dX5_emptyOvens_34 : decode cX5_emptyOvens 34 = .ok (.dup2, 1) := by decide +kernel
theorem dX5_emptyOvens_35 : decode cX5_emptyOvens 35 = .ok (.iaload, 1) := by decide +kernel
theorem dX5_emptyOvens_36 : decode cX5_emptyOvens 36 = .ok (.iconst 1, 1) := by decide +kernel
theorem dX5_emptyOvens_37 : decode cX5_emptyOvens 37 = .ok (.isub, 1) := by decide +kernel
theorem dX5_emptyOvens_38 : decode cX5_emptyOvens 38 = .ok (.iastore, 1) := by decide +kernel
theorem dX5_emptyOvens_39 : decode cX5_emptyOvens 39 = .ok (.aload_n 0, 1) := by decide +kernel
theorem dX5_emptyOvens_40 : decode cX5_emptyOvens 40 = .ok (.getfield 18, 3) := by decide +kernel
theorem dX5_emptyOvens_43 : decode cX5_emptyOvens 43 = .ok (.getfield 149, 3) := by decide +kernel
theorem dX5_emptyOvens_46 : decode cX5_emptyOvens 46 = .ok (.iload_n 1, 1) := by decide +kernel
theorem dX5_emptyOvens_47 : decode cX5_emptyOvens 47 = .ok (.iaload, 1) := by decide +kernel
theorem dX5_emptyOvens_48 : decode cX5_emptyOvens 48 = .ok (.ifCond .gt 77, 3) := by decide +kernel
theorem dX5_emptyOvens_51 : decode cX5_emptyOvens 51 = .ok (.aload_n 0, 1) := by decide +kernel
theorem dX5_emptyOvens_52 : decode cX5_emptyOvens 52 = .ok (.getfield 25, 3) := by decide +kernel
theorem dX5_emptyOvens_55 : decode cX5_emptyOvens 55 = .ok (.aload_n 0, 1) := by decide +kernel
theorem dX5_emptyOvens_56 : decode cX5_emptyOvens 56 = .ok (.getfield 18, 3) := by decide +kernel
theorem dX5_emptyOvens_59 : decode cX5_emptyOvens 59 = .ok (.getfield 121, 3) := by decide +kernel
theorem dX5_emptyOvens_62 : decode cX5_emptyOvens 62 = .ok (.iload_n 1, 1) := by decide +kernel
theorem dX5_emptyOvens_63 : decode cX5_emptyOvens 63 = .ok (.iaload, 1) := by decide +kernel
theorem dX5_emptyOvens_64 : decode cX5_emptyOvens 64 = .ok (.aload_n 0, 1) := by decide +kernel
theorem dX5_emptyOvens_65 : decode cX5_emptyOvens 65 = .ok (.getfield 18, 3) := by decide +kernel
theorem dX5_emptyOvens_68 : decode cX5_emptyOvens 68 = .ok (.getfield 116, 3) := by decide +kernel
theorem dX5_emptyOvens_71 : decode cX5_emptyOvens 71 = .ok (.iload_n 1, 1) := by decide +kernel
theorem dX5_emptyOvens_72 : decode cX5_emptyOvens 72 = .ok (.iaload, 1) := by decide +kernel
theorem dX5_emptyOvens_73 : decode cX5_emptyOvens 73 = .ok (.iload_n 1, 1) := by decide +kernel
theorem dX5_emptyOvens_74 : decode cX5_emptyOvens 74 = .ok (.aload_n 0, 1) := by decide +kernel
theorem dX5_emptyOvens_75 : decode cX5_emptyOvens 75 = .ok (.getfield 53, 3) := by decide +kernel
theorem dX5_emptyOvens_78 : decode cX5_emptyOvens 78 = .ok (.invokevirtual 152, 3) := by decide +kernel
theorem dX5_emptyOvens_81 : decode cX5_emptyOvens 81 = .ok (.aload_n 0, 1) := by decide +kernel
theorem dX5_emptyOvens_82 : decode cX5_emptyOvens 82 = .ok (.dup, 1) := by decide +kernel
theorem dX5_emptyOvens_83 : decode cX5_emptyOvens 83 = .ok (.getfield 62, 3) := by decide +kernel
theorem dX5_emptyOvens_86 : decode cX5_emptyOvens 86 = .ok (.aload_n 0, 1) := by decide +kernel
theorem dX5_emptyOvens_87 : decode cX5_emptyOvens 87 = .ok (.getfield 18, 3) := by decide +kernel
theorem dX5_emptyOvens_90 : decode cX5_emptyOvens 90 = .ok (.getfield 121, 3) := by decide +kernel
theorem dX5_emptyOvens_93 : decode cX5_emptyOvens 93 = .ok (.iload_n 1, 1) := by decide +kernel
theorem dX5_emptyOvens_94 : decode cX5_emptyOvens 94 = .ok (.iaload, 1) := by decide +kernel
theorem dX5_emptyOvens_95 : decode cX5_emptyOvens 95 = .ok (.iadd, 1) := by decide +kernel
theorem dX5_emptyOvens_96 : decode cX5_emptyOvens 96 = .ok (.putfield 62, 3) := by decide +kernel
theorem dX5_emptyOvens_99 : decode cX5_emptyOvens 99 = .ok (.aload_n 0, 1) := by decide +kernel
theorem dX5_emptyOvens_100 : decode cX5_emptyOvens 100 = .ok (.getfield 39, 3) := by decide +kernel
theorem dX5_emptyOvens_103 : decode cX5_emptyOvens 103 = .ok (.iconst 0, 1) := by decide +kernel
theorem dX5_emptyOvens_104 : decode cX5_emptyOvens 104 = .ok (.iload_n 1, 1) := by decide +kernel
theorem dX5_emptyOvens_105 : decode cX5_emptyOvens 105 = .ok (.aload_n 0, 1) := by decide +kernel
theorem dX5_emptyOvens_106 : decode cX5_emptyOvens 106 = .ok (.getfield 18, 3) := by decide +kernel
theorem dX5_emptyOvens_109 : decode cX5_emptyOvens 109 = .ok (.getfield 121, 3) := by decide +kernel
theorem dX5_emptyOvens_112 : decode cX5_emptyOvens 112 = .ok (.iload_n 1, 1) := by decide +kernel
theorem dX5_emptyOvens_113 : decode cX5_emptyOvens 113 = .ok (.iaload, 1) := by decide +kernel
theorem dX5_emptyOvens_114 : decode cX5_emptyOvens 114 = .ok (.invokevirtual 131, 3) := by decide +kernel
theorem dX5_emptyOvens_117 : decode cX5_emptyOvens 117 = .ok (.aload_n 0, 1) := by decide +kernel
theorem dX5_emptyOvens_118 : decode cX5_emptyOvens 118 = .ok (.getfield 18, 3) := by decide +kernel
theorem dX5_emptyOvens_121 : decode cX5_emptyOvens 121 = .ok (.iload_n 1, 1) := by decide +kernel
theorem dX5_emptyOvens_122 : decode cX5_emptyOvens 122 = .ok (.invokevirtual 155, 3) := by decide +kernel
theorem dX5_emptyOvens_125 : decode cX5_emptyOvens 125 = .ok (.iinc 1 1, 3) := by decide +kernel
theorem dX5_emptyOvens_128 : decode cX5_emptyOvens 128 = .ok (.goto (-126), 3) := by decide +kernel
theorem dX5_emptyOvens_131 : decode cX5_emptyOvens 131 = .ok (.return_, 1) := by decide +kernel
theorem dX5_throwOutStale_0 : decode cX5_throwOutStale 0 = .ok (.iconst 0, 1) := by decide +kernel
theorem dX5_throwOutStale_1 : decode cX5_throwOutStale 1 = .ok (.istore_n 1, 1) := by decide +kernel
theorem dX5_throwOutStale_2 : decode cX5_throwOutStale 2 = .ok (.iload_n 1, 1) := by decide +kernel
theorem dX5_throwOutStale_3 : decode cX5_throwOutStale 3 = .ok (.aload_n 0, 1) := by decide +kernel
theorem dX5_throwOutStale_4 : decode cX5_throwOutStale 4 = .ok (.getfield 25, 3) := by decide +kernel
theorem dX5_throwOutStale_7 : decode cX5_throwOutStale 7 = .ok (.getfield 47, 3) := by decide +kernel
theorem dX5_throwOutStale_10 : decode cX5_throwOutStale 10 = .ok (.if_icmp .ge 73, 3) := by decide +kernel
theorem dX5_throwOutStale_13 : decode cX5_throwOutStale 13 = .ok (.aload_n 0, 1) := by decide +kernel
theorem dX5_throwOutStale_14 : decode cX5_throwOutStale 14 = .ok (.iload_n 1, 1) := by decide +kernel
theorem dX5_throwOutStale_15 : decode cX5_throwOutStale 15 = .ok (.invokevirtual 159, 3) := by decide +kernel
theorem dX5_throwOutStale_18 : decode cX5_throwOutStale 18 = .ok (.ifCond .ne 59, 3) := by decide +kernel
theorem dX5_throwOutStale_21 : decode cX5_throwOutStale 21 = .ok (.aload_n 0, 1) := by decide +kernel
theorem dX5_throwOutStale_22 : decode cX5_throwOutStale 22 = .ok (.getfield 39, 3) := by decide +kernel
theorem dX5_throwOutStale_25 : decode cX5_throwOutStale 25 = .ok (.iconst 2, 1) := by decide +kernel
theorem dX5_throwOutStale_26 : decode cX5_throwOutStale 26 = .ok (.aload_n 0, 1) := by decide +kernel
theorem dX5_throwOutStale_27 : decode cX5_throwOutStale 27 = .ok (.getfield 25, 3) := by decide +kernel
theorem dX5_throwOutStale_30 : decode cX5_throwOutStale 30 = .ok (.getfield 97, 3) := by decide +kernel
theorem dX5_throwOutStale_33 : decode cX5_throwOutStale 33 = .ok (.iload_n 1, 1) := by decide +kernel
theorem dX5_throwOutStale_34 : decode cX5_throwOutStale 34 = .ok (.iaload, 1) := by decide +kernel
theorem dX5_throwOutStale_35 : decode cX5_throwOutStale 35 = .ok (.aload_n 0, 1) := by decide +kernel
theorem dX5_throwOutStale_36 : decode cX5_throwOutStale 36 = .ok (.getfield 25, 3) := by decide +kernel
theorem dX5_throwOutStale_39 : decode cX5_throwOutStale 39 = .ok (.getfield 162, 3) := by decide +kernel
theorem dX5_throwOutStale_42 : decode cX5_throwOutStale 42 = .ok (.iload_n 1, 1) := by decide +kernel
theorem dX5_throwOutStale_43 : decode cX5_throwOutStale 43 = .ok (.iaload, 1) := by decide +kernel
theorem dX5_throwOutStale_44 : decode cX5_throwOutStale 44 = .ok (.invokevirtual 131, 3) := by decide +kernel
theorem dX5_throwOutStale_47 : decode cX5_throwOutStale 47 = .ok (.aload_n 0, 1) := by decide +kernel
theorem dX5_throwOutStale_48 : decode cX5_throwOutStale 48 = .ok (.dup, 1) := by decide +kernel
theorem dX5_throwOutStale_49 : decode cX5_throwOutStale 49 = .ok (.getfield 68, 3) := by decide +kernel
theorem dX5_throwOutStale_52 : decode cX5_throwOutStale 52 = .ok (.iconst 1, 1) := by decide +kernel
theorem dX5_throwOutStale_53 : decode cX5_throwOutStale 53 = .ok (.iadd, 1) := by decide +kernel
theorem dX5_throwOutStale_54 : decode cX5_throwOutStale 54 = .ok (.putfield 68, 3) := by decide +kernel
theorem dX5_throwOutStale_57 : decode cX5_throwOutStale 57 = .ok (.aload_n 0, 1) := by decide +kernel
theorem dX5_throwOutStale_58 : decode cX5_throwOutStale 58 = .ok (.dup, 1) := by decide +kernel
theorem dX5_throwOutStale_59 : decode cX5_throwOutStale 59 = .ok (.getfield 56, 3) := by decide +kernel
theorem dX5_throwOutStale_62 : decode cX5_throwOutStale 62 = .ok (.iconst 5, 1) := by decide +kernel
theorem dX5_throwOutStale_63 : decode cX5_throwOutStale 63 = .ok (.iadd, 1) := by decide +kernel
theorem dX5_throwOutStale_64 : decode cX5_throwOutStale 64 = .ok (.putfield 56, 3) := by decide +kernel
theorem dX5_throwOutStale_67 : decode cX5_throwOutStale 67 = .ok (.aload_n 0, 1) := by decide +kernel
theorem dX5_throwOutStale_68 : decode cX5_throwOutStale 68 = .ok (.getfield 25, 3) := by decide +kernel
theorem dX5_throwOutStale_71 : decode cX5_throwOutStale 71 = .ok (.getfield 97, 3) := by decide +kernel
theorem dX5_throwOutStale_74 : decode cX5_throwOutStale 74 = .ok (.iload_n 1, 1) := by decide +kernel
theorem dX5_throwOutStale_75 : decode cX5_throwOutStale 75 = .ok (.iconst (-1), 1) := by decide +kernel
theorem dX5_throwOutStale_76 : decode cX5_throwOutStale 76 = .ok (.iastore, 1) := by decide +kernel
theorem dX5_throwOutStale_77 : decode cX5_throwOutStale 77 = .ok (.iinc 1 1, 3) := by decide +kernel
theorem dX5_throwOutStale_80 : decode cX5_throwOutStale 80 = .ok (.goto (-78), 3) := by decide +kernel
theorem dX5_throwOutStale_83 : decode cX5_throwOutStale 83 = .ok (.aload_n 0, 1) := by decide +kernel
theorem dX5_throwOutStale_84 : decode cX5_throwOutStale 84 = .ok (.getfield 25, 3) := by decide +kernel
theorem dX5_throwOutStale_87 : decode cX5_throwOutStale 87 = .ok (.invokevirtual 165, 3) := by decide +kernel
theorem dX5_throwOutStale_90 : decode cX5_throwOutStale 90 = .ok (.return_, 1) := by decide +kernel
theorem dX5_feedSparrows_0 : decode cX5_feedSparrows 0 = .ok (.iconst 3, 1) := by decide +kernel
theorem dX5_feedSparrows_1 : decode cX5_feedSparrows 1 = .ok (.aload_n 0, 1) := by decide +kernel
theorem dX5_feedSparrows_2 : decode cX5_feedSparrows 2 = .ok (.getfield 59, 3) := by decide +kernel
theorem dX5_feedSparrows_5 : decode cX5_feedSparrows 5 = .ok (.imul, 1) := by decide +kernel
theorem dX5_feedSparrows_6 : decode cX5_feedSparrows 6 = .ok (.istore_n 1, 1) := by decide +kernel
theorem dX5_feedSparrows_7 : decode cX5_feedSparrows 7 = .ok (.aload_n 0, 1) := by decide +kernel
theorem dX5_feedSparrows_8 : decode cX5_feedSparrows 8 = .ok (.iload_n 1, 1) := by decide +kernel
theorem dX5_feedSparrows_9 : decode cX5_feedSparrows 9 = .ok (.aload_n 0, 1) := by decide +kernel
theorem dX5_feedSparrows_10 : decode cX5_feedSparrows 10 = .ok (.getfield 56, 3) := by decide +kernel
theorem dX5_feedSparrows_13 : decode cX5_feedSparrows 13 = .ok (.if_icmp .ge 12, 3) := by decide +kernel
theorem dX5_feedSparrows_16 : decode cX5_feedSparrows 16 = .ok (.aload_n 0, 1) := by decide +kernel
theorem dX5_feedSparrows_17 : decode cX5_feedSparrows 17 = .ok (.getfield 56, 3) := by decide +kernel
theorem dX5_feedSparrows_20 : decode cX5_feedSparrows 20 = .ok (.iload_n 1, 1) := by decide +kernel
theorem dX5_feedSparrows_21 : decode cX5_feedSparrows 21 = .ok (.isub, 1) := by decide +kernel
theorem dX5_feedSparrows_22 : decode cX5_feedSparrows 22 = .ok (.goto 4, 3) := by decide +kernel
theorem dX5_feedSparrows_25 : decode cX5_feedSparrows 25 = .ok (.iconst 0, 1) := by decide +kernel
theorem dX5_feedSparrows_26 : decode cX5_feedSparrows 26 = .ok (.putfield 56, 3) := by decide +kernel
theorem dX5_feedSparrows_29 : decode cX5_feedSparrows 29 = .ok (.aload_n 0, 1) := by decide +kernel
theorem dX5_feedSparrows_30 : decode cX5_feedSparrows 30 = .ok (.getfield 56, 3) := by decide +kernel
theorem dX5_feedSparrows_33 : decode cX5_feedSparrows 33 = .ok (.bipush 20, 2) := by decide +kernel
theorem dX5_feedSparrows_35 : decode cX5_feedSparrows 35 = .ok (.if_icmp .le 25, 3) := by decide +kernel
theorem dX5_feedSparrows_38 : decode cX5_feedSparrows 38 = .ok (.aload_n 0, 1) := by decide +kernel
theorem dX5_feedSparrows_39 : decode cX5_feedSparrows 39 = .ok (.getfield 59, 3) := by decide +kernel
theorem dX5_feedSparrows_42 : decode cX5_feedSparrows 42 = .ok (.bipush 9, 2) := by decide +kernel
theorem dX5_feedSparrows_44 : decode cX5_feedSparrows 44 = .ok (.if_icmp .ge 40, 3) := by decide +kernel
theorem dX5_feedSparrows_47 : decode cX5_feedSparrows 47 = .ok (.aload_n 0, 1) := by decide +kernel
theorem dX5_feedSparrows_48 : decode cX5_feedSparrows 48 = .ok (.dup, 1) := by decide +kernel
theorem dX5_feedSparrows_49 : decode cX5_feedSparrows 49 = .ok (.getfield 59, 3) := by decide +kernel
theorem dX5_feedSparrows_52 : decode cX5_feedSparrows 52 = .ok (.iconst 1, 1) := by decide +kernel
theorem dX5_feedSparrows_53 : decode cX5_feedSparrows 53 = .ok (.iadd, 1) := by decide +kernel
theorem dX5_feedSparrows_54 : decode cX5_feedSparrows 54 = .ok (.putfield 59, 3) := by decide +kernel
theorem dX5_feedSparrows_57 : decode cX5_feedSparrows 57 = .ok (.goto 27, 3) := by decide +kernel
theorem dX5_feedSparrows_60 : decode cX5_feedSparrows 60 = .ok (.aload_n 0, 1) := by decide +kernel
theorem dX5_feedSparrows_61 : decode cX5_feedSparrows 61 = .ok (.getfield 56, 3) := by decide +kernel
theorem dX5_feedSparrows_64 : decode cX5_feedSparrows 64 = .ok (.ifCond .ne 20, 3) := by decide +kernel
theorem dX5_feedSparrows_67 : decode cX5_feedSparrows 67 = .ok (.aload_n 0, 1) := by decide +kernel
theorem dX5_feedSparrows_68 : decode cX5_feedSparrows 68 = .ok (.getfield 59, 3) := by decide +kernel
theorem dX5_feedSparrows_71 : decode cX5_feedSparrows 71 = .ok (.ifCond .le 13, 3) := by decide +kernel
theorem dX5_feedSparrows_74 : decode cX5_feedSparrows 74 = .ok (.aload_n 0, 1) := by decide +kernel
theorem dX5_feedSparrows_75 : decode cX5_feedSparrows 75 = .ok (.dup, 1) := by decide +kernel
theorem dX5_feedSparrows_76 : decode cX5_feedSparrows 76 = .ok (.getfield 59, 3) := by decide +kernel
theorem dX5_feedSparrows_79 : decode cX5_feedSparrows 79 = .ok (.iconst 1, 1) := by decide +kernel
theorem dX5_feedSparrows_80 : decode cX5_feedSparrows 80 = .ok (.isub, 1) := by decide +kernel
theorem dX5_feedSparrows_81 : decode cX5_feedSparrows 81 = .ok (.putfield 59, 3) := by decide +kernel
theorem dX5_feedSparrows_84 : decode cX5_feedSparrows 84 = .ok (.return_, 1) := by decide +kernel
theorem dX5_loseOnePatience_0 : decode cX5_loseOnePatience 0 = .ok (.iconst 0, 1) := by decide +kernel
theorem dX5_loseOnePatience_1 : decode cX5_loseOnePatience 1 = .ok (.istore_n 1, 1) := by decide +kernel
theorem dX5_loseOnePatience_2 : decode cX5_loseOnePatience 2 = .ok (.iload_n 1, 1) := by decide +kernel
theorem dX5_loseOnePatience_3 : decode cX5_loseOnePatience 3 = .ok (.aload_n 0, 1) := by decide +kernel
theorem dX5_loseOnePatience_4 : decode cX5_loseOnePatience 4 = .ok (.getfield 32, 3) := by decide +kernel
theorem dX5_loseOnePatience_7 : decode cX5_loseOnePatience 7 = .ok (.getfield 48, 3) := by decide +kernel
theorem dX5_loseOnePatience_10 : decode cX5_loseOnePatience 10 = .ok (.if_icmp .ge 40, 3) := by decide +kernel
theorem dX5_loseOnePatience_13 : decode cX5_loseOnePatience 13 = .ok (.aload_n 0, 1) := by decide +kernel
theorem dX5_loseOnePatience_14 : decode cX5_loseOnePatience 14 = .ok (.getfield 32, 3) := by decide +kernel
theorem dX5_loseOnePatience_17 : decode cX5_loseOnePatience 17 = .ok (.getfield 168, 3) := by decide +kernel
theorem dX5_loseOnePatience_20 : decode cX5_loseOnePatience 20 = .ok (.iload_n 1, 1) := by decide +kernel
theorem dX5_loseOnePatience_21 : decode cX5_loseOnePatience 21 = .ok (.dup2, 1) := by decide +kernel
theorem dX5_loseOnePatience_22 : decode cX5_loseOnePatience 22 = .ok (.iaload, 1) := by decide +kernel
theorem dX5_loseOnePatience_23 : decode cX5_loseOnePatience 23 = .ok (.iconst 1, 1) := by decide +kernel
theorem dX5_loseOnePatience_24 : decode cX5_loseOnePatience 24 = .ok (.isub, 1) := by decide +kernel
theorem dX5_loseOnePatience_25 : decode cX5_loseOnePatience 25 = .ok (.iastore, 1) := by decide +kernel
theorem dX5_loseOnePatience_26 : decode cX5_loseOnePatience 26 = .ok (.aload_n 0, 1) := by decide +kernel
theorem dX5_loseOnePatience_27 : decode cX5_loseOnePatience 27 = .ok (.getfield 32, 3) := by decide +kernel
theorem dX5_loseOnePatience_30 : decode cX5_loseOnePatience 30 = .ok (.getfield 168, 3) := by decide +kernel
theorem dX5_loseOnePatience_33 : decode cX5_loseOnePatience 33 = .ok (.iload_n 1, 1) := by decide +kernel
theorem dX5_loseOnePatience_34 : decode cX5_loseOnePatience 34 = .ok (.iaload, 1) := by decide +kernel
theorem dX5_loseOnePatience_35 : decode cX5_loseOnePatience 35 = .ok (.ifCond .gt 9, 3) := by decide +kernel
theorem dX5_loseOnePatience_38 : decode cX5_loseOnePatience 38 = .ok (.aload_n 0, 1) := by decide +kernel
theorem dX5_loseOnePatience_39 : decode cX5_loseOnePatience 39 = .ok (.iload_n 1, 1) := by decide +kernel
theorem dX5_loseOnePatience_40 : decode cX5_loseOnePatience 40 = .ok (.iconst 1, 1) := by decide +kernel
theorem dX5_loseOnePatience_41 : decode cX5_loseOnePatience 41 = .ok (.invokevirtual 171, 3) := by decide +kernel
theorem dX5_loseOnePatience_44 : decode cX5_loseOnePatience 44 = .ok (.iinc 1 1, 3) := by decide +kernel
theorem dX5_loseOnePatience_47 : decode cX5_loseOnePatience 47 = .ok (.goto (-45), 3) := by decide +kernel
theorem dX5_loseOnePatience_50 : decode cX5_loseOnePatience 50 = .ok (.aload_n 0, 1) := by decide +kernel
theorem dX5_loseOnePatience_51 : decode cX5_loseOnePatience 51 = .ok (.getfield 32, 3) := by decide +kernel
theorem dX5_loseOnePatience_54 : decode cX5_loseOnePatience 54 = .ok (.invokevirtual 175, 3) := by decide +kernel
theorem dX5_loseOnePatience_57 : decode cX5_loseOnePatience 57 = .ok (.return_, 1) := by decide +kernel
theorem dX6_init_0 : decode cX6_init 0 = .ok (.aload_n 0, 1) := by decide +kernel
theorem dX6_init_1 : decode cX6_init 1 = .ok (.invokespecial 3, 3) := by decide +kernel
theorem dX6_init_4 : decode cX6_init 4 = .ok (.aload_n 0, 1) := by decide +kernel
theorem dX6_init_5 : decode cX6_init 5 = .ok (.bipush 60, 2) := by decide +kernel
theorem dX6_init_7 : decode cX6_init 7 = .ok (.newarray .int, 2) := by decide +kernel
theorem dX6_init_9 : decode cX6_init 9 = .ok (.putfield 9, 3) := by decide +kernel
theorem dX6_init_12 : decode cX6_init 12 = .ok (.aload_n 0, 1) := by decide +kernel
theorem dX6_init_13 : decode cX6_init 13 = .ok (.bipush 60, 2) := by decide +kernel
theorem dX6_init_15 : decode cX6_init 15 = .ok (.newarray .int, 2) := by decide +kernel
theorem dX6_init_17 : decode cX6_init 17 = .ok (.putfield 15, 3) := by decide +kernel
theorem dX6_init_20 : decode cX6_init 20 = .ok (.aload_n 0, 1) := by decide +kernel
theorem dX6_init_21 : decode cX6_init 21 = .ok (.bipush 60, 2) := by decide +kernel
theorem dX6_init_23 : decode cX6_init 23 = .ok (.newarray .int, 2) := by decide +kernel
theorem dX6_init_25 : decode cX6_init 25 = .ok (.putfield 18, 3) := by decide +kernel
theorem dX6_init_28 : decode cX6_init 28 = .ok (.return_, 1) := by decide +kernel
theorem dX6_copyFrom_0 : decode cX6_copyFrom 0 = .ok (.aload_n 0, 1) := by decide +kernel
theorem dX6_copyFrom_1 : decode cX6_copyFrom 1 = .ok (.aload_n 1, 1) := by decide +kernel
theorem dX6_copyFrom_2 : decode cX6_copyFrom 2 = .ok (.getfield 21, 3) := by decide +kernel
theorem dX6_copyFrom_5 : decode cX6_copyFrom 5 = .ok (.putfield 21, 3) := by decide +kernel
theorem dX6_copyFrom_8 : decode cX6_copyFrom 8 = .ok (.aload_n 1, 1) := by decide +kernel
theorem dX6_copyFrom_9 : decode cX6_copyFrom 9 = .ok (.getfield 9, 3) := by decide +kernel
theorem dX6_copyFrom_12 : decode cX6_copyFrom 12 = .ok (.aload_n 0, 1) := by decide +kernel
theorem dX6_copyFrom_13 : decode cX6_copyFrom 13 = .ok (.getfield 9, 3) := by decide +kernel
theorem dX6_copyFrom_16 : decode cX6_copyFrom 16 = .ok (.invokestatic 25, 3) := by decide +kernel
theorem dX6_copyFrom_19 : decode cX6_copyFrom 19 = .ok (.aload_n 1, 1) := by decide +kernel
theorem dX6_copyFrom_20 : decode cX6_copyFrom 20 = .ok (.getfield 15, 3) := by decide +kernel
theorem dX6_copyFrom_23 : decode cX6_copyFrom 23 = .ok (.aload_n 0, 1) := by decide +kernel
theorem dX6_copyFrom_24 : decode cX6_copyFrom 24 = .ok (.getfield 15, 3) := by decide +kernel
theorem dX6_copyFrom_27 : decode cX6_copyFrom 27 = .ok (.invokestatic 25, 3) := by decide +kernel
theorem dX6_copyFrom_30 : decode cX6_copyFrom 30 = .ok (.aload_n 1, 1) := by decide +kernel
theorem dX6_copyFrom_31 : decode cX6_copyFrom 31 = .ok (.getfield 18, 3) := by decide +kernel
theorem dX6_copyFrom_34 : decode cX6_copyFrom 34 = .ok (.aload_n 0, 1) := by decide +kernel
theorem dX6_copyFrom_35 : decode cX6_copyFrom 35 = .ok (.getfield 18, 3) := by decide +kernel
theorem dX6_copyFrom_38 : decode cX6_copyFrom 38 = .ok (.invokestatic 25, 3) := by decide +kernel
theorem dX6_copyFrom_41 : decode cX6_copyFrom 41 = .ok (.return_, 1) := by decide +kernel
theorem dX6_add_0 : decode cX6_add 0 = .ok (.iconst 0, 1) := by decide +kernel
theorem dX6_add_1 : decode cX6_add 1 = .ok (.istore 5, 2) := by decide +kernel
theorem dX6_add_3 : decode cX6_add 3 = .ok (.iload 5, 2) := by decide +kernel
theorem dX6_add_5 : decode cX6_add 5 = .ok (.iload_n 1, 1) := by decide +kernel
theorem dX6_add_6 : decode cX6_add 6 = .ok (.if_icmp .ge 59, 3) := by decide +kernel
theorem dX6_add_9 : decode cX6_add 9 = .ok (.aload_n 0, 1) := by decide +kernel
theorem dX6_add_10 : decode cX6_add 10 = .ok (.getfield 21, 3) := by decide +kernel
theorem dX6_add_13 : decode cX6_add 13 = .ok (.bipush 60, 2) := by decide +kernel
theorem dX6_add_15 : decode cX6_add 15 = .ok (.if_icmp .ge 50, 3) := by decide +kernel
theorem dX6_add_18 : decode cX6_add 18 = .ok (.aload_n 0, 1) := by decide +kernel
theorem dX6_add_19 : decode cX6_add 19 = .ok (.getfield 9, 3) := by decide +kernel
theorem dX6_add_22 : decode cX6_add 22 = .ok (.aload_n 0, 1) := by decide +kernel
theorem dX6_add_23 : decode cX6_add 23 = .ok (.getfield 21, 3) := by decide +kernel
theorem dX6_add_26 : decode cX6_add 26 = .ok (.iload_n 2, 1) := by decide +kernel
theorem dX6_add_27 : decode cX6_add 27 = .ok (.iastore, 1) := by decide +kernel
theorem dX6_add_28 : decode cX6_add 28 = .ok (.aload_n 0, 1) := by decide +kernel
theorem dX6_add_29 : decode cX6_add 29 = .ok (.getfield 15, 3) := by decide +kernel
theorem dX6_add_32 : decode cX6_add 32 = .ok (.aload_n 0, 1) := by decide +kernel
theorem dX6_add_33 : decode cX6_add 33 = .ok (.getfield 21, 3) := by decide +kernel
theorem dX6_add_36 : decode cX6_add 36 = .ok (.iload_n 3, 1) := by decide +kernel
theorem dX6_add_37 : decode cX6_add 37 = .ok (.iastore, 1) := by decide +kernel
theorem dX6_add_38 : decode cX6_add 38 = .ok (.aload_n 0, 1) := by decide +kernel
theorem dX6_add_39 : decode cX6_add 39 = .ok (.getfield 18, 3) := by decide +kernel
theorem dX6_add_42 : decode cX6_add 42 = .ok (.aload_n 0, 1) := by decide +kernel
theorem dX6_add_43 : decode cX6_add 43 = .ok (.getfield 21, 3) := by decide +kernel
theorem dX6_add_46 : decode cX6_add 46 = .ok (.iload 4, 2) := by decide +kernel
theorem dX6_add_48 : decode cX6_add 48 = .ok (.iastore, 1) := by decide +kernel
theorem dX6_add_49 : decode cX6_add 49 = .ok (.aload_n 0, 1) := by decide +kernel
theorem dX6_add_50 : decode cX6_add 50 = .ok (.dup, 1) := by decide +kernel
theorem dX6_add_51 : decode cX6_add 51 = .ok (.getfield 21, 3) := by decide +kernel
theorem dX6_add_54 : decode cX6_add 54 = .ok (.iconst 1, 1) := by decide +kernel
theorem dX6_add_55 : decode cX6_add 55 = .ok (.iadd, 1) := by decide +kernel
theorem dX6_add_56 : decode cX6_add 56 = .ok (.putfield 21, 3) := by decide +kernel
theorem dX6_add_59 : decode cX6_add 59 = .ok (.iinc 5 1, 3) := by decide +kernel
theorem dX6_add_62 : decode cX6_add 62 = .ok (.goto (-59), 3) := by decide +kernel
theorem dX6_add_65 : decode cX6_add 65 = .ok (.return_, 1) := by decide +kernel
theorem dX6_closeGaps_0 : decode cX6_closeGaps 0 = .ok (.iconst 0, 1) := by decide +kernel
theorem dX6_closeGaps_1 : decode cX6_closeGaps 1 = .ok (.istore_n 1, 1) := by decide +kernel
theorem dX6_closeGaps_2 : decode cX6_closeGaps 2 = .ok (.iconst 0, 1) := by decide +kernel
theorem dX6_closeGaps_3 : decode cX6_closeGaps 3 = .ok (.istore_n 2, 1) := by decide +kernel
theorem dX6_closeGaps_4 : decode cX6_closeGaps 4 = .ok (.iload_n 2, 1) := by decide +kernel
theorem dX6_closeGaps_5 : decode cX6_closeGaps 5 = .ok (.aload_n 0, 1) := by decide +kernel
theorem dX6_closeGaps_6 : decode cX6_closeGaps 6 = .ok (.getfield 21, 3) := by decide +kernel
theorem dX6_closeGaps_9 : decode cX6_closeGaps 9 = .ok (.if_icmp .ge 58, 3) := by decide +kernel
theorem dX6_closeGaps_12 : decode cX6_closeGaps 12 = .ok (.aload_n 0, 1) := by decide +kernel
theorem dX6_closeGaps_13 : decode cX6_closeGaps 13 = .ok (.getfield 9, 3) := by decide +kernel
theorem dX6_closeGaps_16 : decode cX6_closeGaps 16 = .ok (.iload_n 2, 1) := by decide +kernel
theorem dX6_closeGaps_17 : decode cX6_closeGaps 17 = .ok (.iaload, 1) := by decide +kernel
theorem dX6_closeGaps_18 : decode cX6_closeGaps 18 = .ok (.iconst (-1), 1) := by decide +kernel
theorem dX6_closeGaps_19 : decode cX6_closeGaps 19 = .ok (.if_icmp .eq 42, 3) := by decide +kernel
theorem dX6_closeGaps_22 : decode cX6_closeGaps 22 = .ok (.aload_n 0, 1) := by decide +kernel
theorem dX6_closeGaps_23 : decode cX6_closeGaps 23 = .ok (.getfield 9, 3) := by decide +kernel
theorem dX6_closeGaps_26 : decode cX6_closeGaps 26 = .ok (.iload_n 1, 1) := by decide +kernel
theorem dX6_closeGaps_27 : decode cX6_closeGaps 27 = .ok (.aload_n 0, 1) := by decide +kernel
theorem dX6_closeGaps_28 : decode cX6_closeGaps 28 = .ok (.getfield 9, 3) := by decide +kernel
theorem dX6_closeGaps_31 : decode cX6_closeGaps 31 = .ok (.iload_n 2, 1) := by decide +kernel
theorem dX6_closeGaps_32 : decode cX6_closeGaps 32 = .ok (.iaload, 1) := by decide +kernel
theorem dX6_closeGaps_33 : decode cX6_closeGaps 33 = .ok (.iastore, 1) := by decide +kernel
theorem dX6_closeGaps_34 : decode cX6_closeGaps 34 = .ok (.aload_n 0, 1) := by decide +kernel
theorem dX6_closeGaps_35 : decode cX6_closeGaps 35 = .ok (.getfield 15, 3) := by decide +kernel
theorem dX6_closeGaps_38 : decode cX6_closeGaps 38 = .ok (.iload_n 1, 1) := by decide +kernel
theorem dX6_closeGaps_39 : decode cX6_closeGaps 39 = .ok (.aload_n 0, 1) := by decide +kernel
theorem dX6_closeGaps_40 : decode cX6_closeGaps 40 = .ok (.getfield 15, 3) := by decide +kernel
theorem dX6_closeGaps_43 : decode cX6_closeGaps 43 = .ok (.iload_n 2, 1) := by decide +kernel
theorem dX6_closeGaps_44 : decode cX6_closeGaps 44 = .ok (.iaload, 1) := by decide +kernel
theorem dX6_closeGaps_45 : decode cX6_closeGaps 45 = .ok (.iastore, 1) := by decide +kernel
theorem dX6_closeGaps_46 : decode cX6_closeGaps 46 = .ok (.aload_n 0, 1) := by decide +kernel
theorem dX6_closeGaps_47 : decode cX6_closeGaps 47 = .ok (.getfield 18, 3) := by decide +kernel
theorem dX6_closeGaps_50 : decode cX6_closeGaps 50 = .ok (.iload_n 1, 1) := by decide +kernel
theorem dX6_closeGaps_51 : decode cX6_closeGaps 51 = .ok (.aload_n 0, 1) := by decide +kernel
theorem dX6_closeGaps_52 : decode cX6_closeGaps 52 = .ok (.getfield 18, 3) := by decide +kernel
theorem dX6_closeGaps_55 : decode cX6_closeGaps 55 = .ok (.iload_n 2, 1) := by decide +kernel
theorem dX6_closeGaps_56 : decode cX6_closeGaps 56 = .ok (.iaload, 1) := by decide +kernel
theorem dX6_closeGaps_57 : decode cX6_closeGaps 57 = .ok (.iastore, 1) := by decide +kernel
theorem dX6_closeGaps_58 : decode cX6_closeGaps 58 = .ok (.iinc 1 1, 3) := by decide +kernel
theorem dX6_closeGaps_61 : decode cX6_closeGaps 61 = .ok (.iinc 2 1, 3) := by decide +kernel
theorem dX6_closeGaps_64 : decode cX6_closeGaps 64 = .ok (.goto (-60), 3) := by decide +kernel
theorem dX6_closeGaps_67 : decode cX6_closeGaps 67 = .ok (.aload_n 0, 1) := by decide +kernel
theorem dX6_closeGaps_68 : decode cX6_closeGaps 68 = .ok (.iload_n 1, 1) := by decide +kernel
theorem dX6_closeGaps_69 : decode cX6_closeGaps 69 = .ok (.putfield 21, 3) := by decide +kernel
theorem dX6_closeGaps_72 : decode cX6_closeGaps 72 = .ok (.return_, 1) := by decide +kernel
theorem dX7_init_0 : decode cX7_init 0 = .ok (.aload_n 0, 1) := by decide +kernel
theorem dX7_init_1 : decode cX7_init 1 = .ok (.invokespecial 1, 3) := by decide +kernel
theorem dX7_init_4 : decode cX7_init 4 = .ok (.aload_n 0, 1) := by decide +kernel
theorem dX7_init_5 : decode cX7_init 5 = .ok (.aload_n 1, 1) := by decide +kernel
theorem dX7_init_6 : decode cX7_init 6 = .ok (.putfield 7, 3) := by decide +kernel
theorem dX7_init_9 : decode cX7_init 9 = .ok (.return_, 1) := by decide +kernel
theorem dX7_begin_0 : decode cX7_begin 0 = .ok (.aload_n 0, 1) := by decide +kernel
theorem dX7_begin_1 : decode cX7_begin 1 = .ok (.iload_n 1, 1) := by decide +kernel
theorem dX7_begin_2 : decode cX7_begin 2 = .ok (.aload_n 0, 1) := by decide +kernel
theorem dX7_begin_3 : decode cX7_begin 3 = .ok (.getfield 7, 3) := by decide +kernel
theorem dX7_begin_6 : decode cX7_begin 6 = .ok (.arraylength, 1) := by decide +kernel
theorem dX7_begin_7 : decode cX7_begin 7 = .ok (.if_icmp .ge 7, 3) := by decide +kernel
theorem dX7_begin_10 : decode cX7_begin 10 = .ok (.iload_n 1, 1) := by decide +kernel
theorem dX7_begin_11 : decode cX7_begin 11 = .ok (.goto 8, 3) := by decide +kernel
theorem dX7_begin_14 : decode cX7_begin 14 = .ok (.aload_n 0, 1) := by decide +kernel
theorem dX7_begin_15 : decode cX7_begin 15 = .ok (.getfield 7, 3) := by decide +kernel
theorem dX7_begin_18 : decode cX7_begin 18 = .ok (.arraylength, 1) := by decide +kernel
theorem dX7_begin_19 : decode cX7_begin 19 = .ok (.putfield 13, 3) := by decide +kernel
theorem dX7_begin_22 : decode cX7_begin 22 = .ok (.aload_n 0, 1) := by decide +kernel
theorem dX7_begin_23 : decode cX7_begin 23 = .ok (.iconst 0, 1) := by decide +kernel
theorem dX7_begin_24 : decode cX7_begin 24 = .ok (.putfield 17, 3) := by decide +kernel
theorem dX7_begin_27 : decode cX7_begin 27 = .ok (.aload_n 0, 1) := by decide +kernel
theorem dX7_begin_28 : decode cX7_begin 28 = .ok (.invokevirtual 20, 3) := by decide +kernel
theorem dX7_begin_31 : decode cX7_begin 31 = .ok (.return_, 1) := by decide +kernel
theorem dX7_next_0 : decode cX7_next 0 = .ok (.aload_n 0, 1) := by decide +kernel
theorem dX7_next_1 : decode cX7_next 1 = .ok (.getfield 17, 3) := by decide +kernel
theorem dX7_next_4 : decode cX7_next 4 = .ok (.istore_n 1, 1) := by decide +kernel
theorem dX7_next_5 : decode cX7_next 5 = .ok (.iload_n 1, 1) := by decide +kernel
theorem dX7_next_6 : decode cX7_next 6 = .ok (.aload_n 0, 1) := by decide +kernel
theorem dX7_next_7 : decode cX7_next 7 = .ok (.getfield 13, 3) := by decide +kernel
theorem dX7_next_10 : decode cX7_next 10 = .ok (.if_icmp .ge 31, 3) := by decide +kernel
theorem dX7_next_13 : decode cX7_next 13 = .ok (.aload_n 0, 1) := by decide +kernel
theorem dX7_next_14 : decode cX7_next 14 = .ok (.getfield 7, 3) := by decide +kernel
theorem dX7_next_17 : decode cX7_next 17 = .ok (.iload_n 1, 1) := by decide +kernel
theorem dX7_next_18 : decode cX7_next 18 = .ok (.baload, 1) := by decide +kernel
theorem dX7_next_19 : decode cX7_next 19 = .ok (.bipush 32, 2) := by decide +kernel
theorem dX7_next_21 : decode cX7_next 21 = .ok (.if_icmp .eq 14, 3) := by decide +kernel
theorem dX7_next_24 : decode cX7_next 24 = .ok (.aload_n 0, 1) := by decide +kernel
theorem dX7_next_25 : decode cX7_next 25 = .ok (.getfield 7, 3) := by decide +kernel
theorem dX7_next_28 : decode cX7_next 28 = .ok (.iload_n 1, 1) := by decide +kernel
theorem dX7_next_29 : decode cX7_next 29 = .ok (.baload, 1) := by decide +kernel
theorem dX7_next_30 : decode cX7_next 30 = .ok (.bipush 10, 2) := by decide +kernel
theorem dX7_next_32 : decode cX7_next 32 = .ok (.if_icmp .ne 9, 3) := by decide +kernel
theorem dX7_next_35 : decode cX7_next 35 = .ok (.iinc 1 1, 3) := by decide +kernel
theorem dX7_next_38 : decode cX7_next 38 = .ok (.goto (-33), 3) := by decide +kernel
theorem dX7_next_41 : decode cX7_next 41 = .ok (.aload_n 0, 1) := by decide +kernel
theorem dX7_next_42 : decode cX7_next 42 = .ok (.iload_n 1, 1) := by decide +kernel
theorem dX7_next_43 : decode cX7_next 43 = .ok (.putfield 23, 3) := by decide +kernel
theorem dX7_next_46 : decode cX7_next 46 = .ok (.iload_n 1, 1) := by decide +kernel
theorem dX7_next_47 : decode cX7_next 47 = .ok (.aload_n 0, 1) := by decide +kernel
theorem dX7_next_48 : decode cX7_next 48 = .ok (.getfield 13, 3) := by decide +kernel
theorem dX7_next_51 : decode cX7_next 51 = .ok (.if_icmp .lt 11, 3) := by decide +kernel
theorem dX7_next_54 : decode cX7_next 54 = .ok (.aload_n 0, 1) := by decide +kernel
theorem dX7_next_55 : decode cX7_next 55 = .ok (.iconst 0, 1) := by decide +kernel
theorem dX7_next_56 : decode cX7_next 56 = .ok (.putfield 26, 3) := by decide +kernel
theorem dX7_next_59 : decode cX7_next 59 = .ok (.goto 97, 3) := by decide +kernel
theorem dX7_next_62 : decode cX7_next 62 = .ok (.aload_n 0, 1) := by decide +kernel
theorem dX7_next_63 : decode cX7_next 63 = .ok (.getfield 7, 3) := by decide +kernel
theorem dX7_next_66 : decode cX7_next 66 = .ok (.iload_n 1, 1) := by decide +kernel
theorem dX7_next_67 : decode cX7_next 67 = .ok (.baload, 1) := by decide +kernel
theorem dX7_next_68 : decode cX7_next 68 = .ok (.invokestatic 29, 3) := by decide +kernel
theorem dX7_next_71 : decode cX7_next 71 = .ok (.ifCond .eq 34, 3) := by decide +kernel
theorem dX7_next_74 : decode cX7_next 74 = .ok (.aload_n 0, 1) := by decide +kernel
theorem dX7_next_75 : decode cX7_next 75 = .ok (.iconst 1, 1) := by decide +kernel
theorem dX7_next_76 : decode cX7_next 76 = .ok (.putfield 26, 3) := by decide +kernel
theorem dX7_next_79 : decode cX7_next 79 = .ok (.iload_n 1, 1) := by decide +kernel
theorem dX7_next_80 : decode cX7_next 80 = .ok (.aload_n 0, 1) := by decide +kernel
theorem dX7_next_81 : decode cX7_next 81 = .ok (.getfield 13, 3) := by decide +kernel
theorem dX7_next_84 : decode cX7_next 84 = .ok (.if_icmp .ge 72, 3) := by decide +kernel
theorem dX7_next_87 : decode cX7_next 87 = .ok (.aload_n 0, 1) := by decide +kernel
theorem dX7_next_88 : decode cX7_next 88 = .ok (.getfield 7, 3) := by decide +kernel
theorem dX7_next_91 : decode cX7_next 91 = .ok (.iload_n 1, 1) := by decide +kernel
theorem dX7_next_92 : decode cX7_next 92 = .ok (.baload, 1) := by decide +kernel
theorem dX7_next_93 : decode cX7_next 93 = .ok (.invokestatic 29, 3) := by decide +kernel
theorem dX7_next_96 : decode cX7_next 96 = .ok (.ifCond .eq 60, 3) := by decide +kernel
theorem dX7_next_99 : decode cX7_next 99 = .ok (.iinc 1 1, 3) := by decide +kernel
theorem dX7_next_102 : decode cX7_next 102 = .ok (.goto (-23), 3) := by decide +kernel
theorem dX7_next_105 : decode cX7_next 105 = .ok (.aload_n 0, 1) := by decide +kernel
theorem dX7_next_106 : decode cX7_next 106 = .ok (.getfield 7, 3) := by decide +kernel
theorem dX7_next_109 : decode cX7_next 109 = .ok (.iload_n 1, 1) := by decide +kernel
theorem dX7_next_110 : decode cX7_next 110 = .ok (.baload, 1) := by decide +kernel
theorem dX7_next_111 : decode cX7_next 111 = .ok (.invokestatic 35, 3) := by decide +kernel
theorem dX7_next_114 : decode cX7_next 114 = .ok (.ifCond .eq 34, 3) := by decide +kernel
theorem dX7_next_117 : decode cX7_next 117 = .ok (.aload_n 0, 1) := by decide +kernel
theorem dX7_next_118 : decode cX7_next 118 = .ok (.iconst 2, 1) := by decide +kernel
theorem dX7_next_119 : decode cX7_next 119 = .ok (.putfield 26, 3) := by decide +kernel
theorem dX7_next_122 : decode cX7_next 122 = .ok (.iload_n 1, 1) := by decide +kernel
theorem dX7_next_123 : decode cX7_next 123 = .ok (.aload_n 0, 1) := by decide +kernel
theorem dX7_next_124 : decode cX7_next 124 = .ok (.getfield 13, 3) := by decide +kernel
theorem dX7_next_127 : decode cX7_next 127 = .ok (.if_icmp .ge 29, 3) := by decide +kernel
theorem dX7_next_130 : decode cX7_next 130 = .ok (.aload_n 0, 1) := by decide +kernel
theorem dX7_next_131 : decode cX7_next 131 = .ok (.getfield 7, 3) := by decide +kernel
theorem dX7_next_134 : decode cX7_next 134 = .ok (.iload_n 1, 1) := by decide +kernel
theorem dX7_next_135 : decode cX7_next 135 = .ok (.baload, 1) := by decide +kernel
theorem dX7_next_136 : decode cX7_next 136 = .ok (.invokestatic 35, 3) := by decide +kernel
theorem dX7_next_139 : decode cX7_next 139 = .ok (.ifCond .eq 17, 3) := by decide +kernel
theorem dX7_next_142 : decode cX7_next 142 = .ok (.iinc 1 1, 3) := by decide +kernel
theorem dX7_next_145 : decode cX7_next 145 = .ok (.goto (-23), 3) := by decide +kernel
theorem dX7_next_148 : decode cX7_next 148 = .ok (.aload_n 0, 1) := by decide +kernel
theorem dX7_next_149 : decode cX7_next 149 = .ok (.iconst 3, 1) := by decide +kernel
theorem dX7_next_150 : decode cX7_next 150 = .ok (.putfield 26, 3) := by decide +kernel
theorem dX7_next_153 : decode cX7_next 153 = .ok (.iinc 1 1, 3) := by decide +kernel
theorem dX7_next_156 : decode cX7_next 156 = .ok (.aload_n 0, 1) := by decide +kernel
theorem dX7_next_157 : decode cX7_next 157 = .ok (.iload_n 1, 1) := by decide +kernel
theorem dX7_next_158 : decode cX7_next 158 = .ok (.putfield 17, 3) := by decide +kernel
theorem dX7_next_161 : decode cX7_next 161 = .ok (.return_, 1) := by decide +kernel
theorem dX7_isWord_0 : decode cX7_isWord 0 = .ok (.aload_n 0, 1) := by decide +kernel
theorem dX7_isWord_1 : decode cX7_isWord 1 = .ok (.getfield 26, 3) := by decide +kernel
theorem dX7_isWord_4 : decode cX7_isWord 4 = .ok (.iconst 1, 1) := by decide +kernel
theorem dX7_isWord_5 : decode cX7_isWord 5 = .ok (.if_icmp .ne 19, 3) := by decide +kernel
theorem dX7_isWord_8 : decode cX7_isWord 8 = .ok (.aload_n 1, 1) := by decide +kernel
theorem dX7_isWord_9 : decode cX7_isWord 9 = .ok (.invokevirtual 38, 3) := by decide +kernel
theorem dX7_isWord_12 : decode cX7_isWord 12 = .ok (.aload_n 0, 1) := by decide +kernel
theorem dX7_isWord_13 : decode cX7_isWord 13 = .ok (.getfield 17, 3) := by decide +kernel
theorem dX7_isWord_16 : decode cX7_isWord 16 = .ok (.aload_n 0, 1) := by decide +kernel
theorem dX7_isWord_17 : decode cX7_isWord 17 = .ok (.getfield 23, 3) := by decide +kernel
theorem dX7_isWord_20 : decode cX7_isWord 20 = .ok (.isub, 1) := by decide +kernel
theorem dX7_isWord_21 : decode cX7_isWord 21 = .ok (.if_icmp .eq 5, 3) := by decide +kernel
theorem dX7_isWord_24 : decode cX7_isWord 24 = .ok (.iconst 0, 1) := by decide +kernel
theorem dX7_isWord_25 : decode cX7_isWord 25 = .ok (.ireturn, 1) := by decide +kernel
theorem dX7_isWord_26 : decode cX7_isWord 26 = .ok (.iconst 0, 1) := by decide +kernel
theorem dX7_isWord_27 : decode cX7_isWord 27 = .ok (.istore_n 2, 1) := by decide +kernel
theorem dX7_isWord_28 : decode cX7_isWord 28 = .ok (.iload_n 2, 1) := by decide +kernel
theorem dX7_isWord_29 : decode cX7_isWord 29 = .ok (.aload_n 1, 1) := by decide +kernel
theorem dX7_isWord_30 : decode cX7_isWord 30 = .ok (.invokevirtual 38, 3) := by decide +kernel
theorem dX7_isWord_33 : decode cX7_isWord 33 = .ok (.if_icmp .ge 43, 3) := by decide +kernel
theorem dX7_isWord_36 : decode cX7_isWord 36 = .ok (.aload_n 0, 1) := by decide +kernel
theorem dX7_isWord_37 : decode cX7_isWord 37 = .ok (.getfield 23, 3) := by decide +kernel
theorem dX7_isWord_40 : decode cX7_isWord 40 = .ok (.iload_n 2, 1) := by decide +kernel
theorem dX7_isWord_41 : decode cX7_isWord 41 = .ok (.iadd, 1) := by decide +kernel
theorem dX7_isWord_42 : decode cX7_isWord 42 = .ok (.aload_n 0, 1) := by decide +kernel
theorem dX7_isWord_43 : decode cX7_isWord 43 = .ok (.getfield 13, 3) := by decide +kernel
theorem dX7_isWord_46 : decode cX7_isWord 46 = .ok (.if_icmp .ge 30, 3) := by decide +kernel
theorem dX7_isWord_49 : decode cX7_isWord 49 = .ok (.aload_n 1, 1) := by decide +kernel
theorem dX7_isWord_50 : decode cX7_isWord 50 = .ok (.iload_n 2, 1) := by decide +kernel
theorem dX7_isWord_51 : decode cX7_isWord 51 = .ok (.invokevirtual 43, 3) := by decide +kernel
theorem dX7_isWord_54 : decode cX7_isWord 54 = .ok (.aload_n 0, 1) := by decide +kernel
theorem dX7_isWord_55 : decode cX7_isWord 55 = .ok (.getfield 7, 3) := by decide +kernel
theorem dX7_isWord_58 : decode cX7_isWord 58 = .ok (.aload_n 0, 1) := by decide +kernel
theorem dX7_isWord_59 : decode cX7_isWord 59 = .ok (.getfield 23, 3) := by decide +kernel
theorem dX7_isWord_62 : decode cX7_isWord 62 = .ok (.iload_n 2, 1) := by decide +kernel
theorem dX7_isWord_63 : decode cX7_isWord 63 = .ok (.iadd, 1) := by decide +kernel
theorem dX7_isWord_64 : decode cX7_isWord 64 = .ok (.baload, 1) := by decide +kernel
theorem dX7_isWord_65 : decode cX7_isWord 65 = .ok (.if_icmp .eq 5, 3) := by decide +kernel
theorem dX7_isWord_68 : decode cX7_isWord 68 = .ok (.iconst 0, 1) := by decide +kernel
theorem dX7_isWord_69 : decode cX7_isWord 69 = .ok (.ireturn, 1) := by decide +kernel
theorem dX7_isWord_70 : decode cX7_isWord 70 = .ok (.iinc 2 1, 3) := by decide +kernel
theorem dX7_isWord_73 : decode cX7_isWord 73 = .ok (.goto (-45), 3) := by decide +kernel
theorem dX7_isWord_76 : decode cX7_isWord 76 = .ok (.iconst 1, 1) := by decide +kernel
theorem dX7_isWord_77 : decode cX7_isWord 77 = .ok (.ireturn, 1) := by decide +kernel
theorem dX7_isSemicolon_0 : decode cX7_isSemicolon 0 = .ok (.aload_n 0, 1) := by decide +kernel
theorem dX7_isSemicolon_1 : decode cX7_isSemicolon 1 = .ok (.getfield 26, 3) := by decide +kernel
theorem dX7_isSemicolon_4 : decode cX7_isSemicolon 4 = .ok (.iconst 3, 1) := by decide +kernel
theorem dX7_isSemicolon_5 : decode cX7_isSemicolon 5 = .ok (.if_icmp .ne 32, 3) := by decide +kernel
theorem dX7_isSemicolon_8 : decode cX7_isSemicolon 8 = .ok (.aload_n 0, 1) := by decide +kernel
theorem dX7_isSemicolon_9 : decode cX7_isSemicolon 9 = .ok (.getfield 23, 3) := by decide +kernel
theorem dX7_isSemicolon_12 : decode cX7_isSemicolon 12 = .ok (.aload_n 0, 1) := by decide +kernel
theorem dX7_isSemicolon_13 : decode cX7_isSemicolon 13 = .ok (.getfield 13, 3) := by decide +kernel
theorem dX7_isSemicolon_16 : decode cX7_isSemicolon 16 = .ok (.if_icmp .ge 21, 3) := by decide +kernel
theorem dX7_isSemicolon_19 : decode cX7_isSemicolon 19 = .ok (.aload_n 0, 1) := by decide +kernel
theorem dX7_isSemicolon_20 : decode cX7_isSemicolon 20 = .ok (.getfield 7, 3) := by decide +kernel
theorem dX7_isSemicolon_23 : decode cX7_isSemicolon 23 = .ok (.aload_n 0, 1) := by decide +kernel
theorem dX7_isSemicolon_24 : decode cX7_isSemicolon 24 = .ok (.getfield 23, 3) := by decide +kernel
theorem dX7_isSemicolon_27 : decode cX7_isSemicolon 27 = .ok (.baload, 1) := by decide +kernel
theorem dX7_isSemicolon_28 : decode cX7_isSemicolon 28 = .ok (.bipush 59, 2) := by decide +kernel
theorem dX7_isSemicolon_30 : decode cX7_isSemicolon 30 = .ok (.if_icmp .ne 7, 3) := by decide +kernel
theorem dX7_isSemicolon_33 : decode cX7_isSemicolon 33 = .ok (.iconst 1, 1) := by decide +kernel
theorem dX7_isSemicolon_34 : decode cX7_isSemicolon 34 = .ok (.goto 4, 3) := by decide +kernel
theorem dX7_isSemicolon_37 : decode cX7_isSemicolon 37 = .ok (.iconst 0, 1) := by decide +kernel
theorem dX7_isSemicolon_38 : decode cX7_isSemicolon 38 = .ok (.ireturn, 1) := by decide +kernel
theorem dX7_name_0 : decode cX7_name 0 = .ok (.aload_n 0, 1) := by decide +kernel
theorem dX7_name_1 : decode cX7_name 1 = .ok (.getfield 7, 3) := by decide +kernel
theorem dX7_name_4 : decode cX7_name 4 = .ok (.aload_n 0, 1) := by decide +kernel
theorem dX7_name_5 : decode cX7_name 5 = .ok (.getfield 23, 3) := by decide +kernel
theorem dX7_name_8 : decode cX7_name 8 = .ok (.aload_n 0, 1) := by decide +kernel
theorem dX7_name_9 : decode cX7_name 9 = .ok (.getfield 17, 3) := by decide +kernel
theorem dX7_name_12 : decode cX7_name 12 = .ok (.invokestatic 47, 3) := by decide +kernel
theorem dX7_name_15 : decode cX7_name 15 = .ok (.ireturn, 1) := by decide +kernel
theorem dX7_value_0 : decode cX7_value 0 = .ok (.iconst 0, 1) := by decide +kernel
theorem dX7_value_1 : decode cX7_value 1 = .ok (.istore_n 1, 1) := by decide +kernel
theorem dX7_value_2 : decode cX7_value 2 = .ok (.aload_n 0, 1) := by decide +kernel
theorem dX7_value_3 : decode cX7_value 3 = .ok (.getfield 23, 3) := by decide +kernel
theorem dX7_value_6 : decode cX7_value 6 = .ok (.istore_n 2, 1) := by decide +kernel
theorem dX7_value_7 : decode cX7_value 7 = .ok (.iload_n 2, 1) := by decide +kernel
theorem dX7_value_8 : decode cX7_value 8 = .ok (.aload_n 0, 1) := by decide +kernel
theorem dX7_value_9 : decode cX7_value 9 = .ok (.getfield 17, 3) := by decide +kernel
theorem dX7_value_12 : decode cX7_value 12 = .ok (.if_icmp .ge 41, 3) := by decide +kernel
theorem dX7_value_15 : decode cX7_value 15 = .ok (.iload_n 2, 1) := by decide +kernel
theorem dX7_value_16 : decode cX7_value 16 = .ok (.aload_n 0, 1) := by decide +kernel
theorem dX7_value_17 : decode cX7_value 17 = .ok (.getfield 13, 3) := by decide +kernel
theorem dX7_value_20 : decode cX7_value 20 = .ok (.if_icmp .ge 33, 3) := by decide +kernel
theorem dX7_value_23 : decode cX7_value 23 = .ok (.iload_n 1, 1) := by decide +kernel
theorem dX7_value_24 : decode cX7_value 24 = .ok (.bipush 10, 2) := by decide +kernel
theorem dX7_value_26 : decode cX7_value 26 = .ok (.imul, 1) := by decide +kernel
theorem dX7_value_27 : decode cX7_value 27 = .ok (.aload_n 0, 1) := by decide +kernel
theorem dX7_value_28 : decode cX7_value 28 = .ok (.getfield 7, 3) := by decide +kernel
theorem dX7_value_31 : decode cX7_value 31 = .ok (.iload_n 2, 1) := by decide +kernel
theorem dX7_value_32 : decode cX7_value 32 = .ok (.baload, 1) := by decide +kernel
theorem dX7_value_33 : decode cX7_value 33 = .ok (.iadd, 1) := by decide +kernel
theorem dX7_value_34 : decode cX7_value 34 = .ok (.bipush 48, 2) := by decide +kernel
theorem dX7_value_36 : decode cX7_value 36 = .ok (.isub, 1) := by decide +kernel
theorem dX7_value_37 : decode cX7_value 37 = .ok (.istore_n 1, 1) := by decide +kernel
theorem dX7_value_38 : decode cX7_value 38 = .ok (.iload_n 1, 1) := by decide +kernel
theorem dX7_value_39 : decode cX7_value 39 = .ok (.ldc 51, 2) := by decide +kernel
theorem dX7_value_41 : decode cX7_value 41 = .ok (.if_icmp .le 6, 3) := by decide +kernel
theorem dX7_value_44 : decode cX7_value 44 = .ok (.ldc 51, 2) := by decide +kernel
theorem dX7_value_46 : decode cX7_value 46 = .ok (.istore_n 1, 1) := by decide +kernel
theorem dX7_value_47 : decode cX7_value 47 = .ok (.iinc 2 1, 3) := by decide +kernel
theorem dX7_value_50 : decode cX7_value 50 = .ok (.goto (-43), 3) := by decide +kernel
theorem dX7_value_53 : decode cX7_value 53 = .ok (.iload_n 1, 1) := by decide +kernel
theorem dX7_value_54 : decode cX7_value 54 = .ok (.ireturn, 1) := by decide +kernel
theorem dX8_init_0 : decode cX8_init 0 = .ok (.aload_n 0, 1) := by decide +kernel
theorem dX8_init_1 : decode cX8_init 1 = .ok (.invokespecial 1, 3) := by decide +kernel
theorem dX8_init_4 : decode cX8_init 4 = .ok (.aload_n 0, 1) := by decide +kernel
theorem dX8_init_5 : decode cX8_init 5 = .ok (.new 7, 3) := by decide +kernel
theorem dX8_init_8 : decode cX8_init 8 = .ok (.dup, 1) := by decide +kernel
theorem dX8_init_9 : decode cX8_init 9 = .ok (.invokespecial 9, 3) := by decide +kernel
theorem dX8_init_12 : decode cX8_init 12 = .ok (.putfield 10, 3) := by decide +kernel
theorem dX8_init_15 : decode cX8_init 15 = .ok (.aload_n 0, 1) := by decide +kernel
theorem dX8_init_16 : decode cX8_init 16 = .ok (.new 7, 3) := by decide +kernel
theorem dX8_init_19 : decode cX8_init 19 = .ok (.dup, 1) := by decide +kernel
theorem dX8_init_20 : decode cX8_init 20 = .ok (.invokespecial 9, 3) := by decide +kernel
theorem dX8_init_23 : decode cX8_init 23 = .ok (.putfield 16, 3) := by decide +kernel
theorem dX8_init_26 : decode cX8_init 26 = .ok (.aload_n 0, 1) := by decide +kernel
theorem dX8_init_27 : decode cX8_init 27 = .ok (.new 19, 3) := by decide +kernel
theorem dX8_init_30 : decode cX8_init 30 = .ok (.dup, 1) := by decide +kernel
theorem dX8_init_31 : decode cX8_init 31 = .ok (.invokespecial 21, 3) := by decide +kernel
theorem dX8_init_34 : decode cX8_init 34 = .ok (.putfield 22, 3) := by decide +kernel
theorem dX8_init_37 : decode cX8_init 37 = .ok (.aload_n 0, 1) := by decide +kernel
theorem dX8_init_38 : decode cX8_init 38 = .ok (.sipush 600, 3) := by decide +kernel
theorem dX8_init_41 : decode cX8_init 41 = .ok (.newarray .byte, 2) := by decide +kernel
theorem dX8_init_43 : decode cX8_init 43 = .ok (.putfield 26, 3) := by decide +kernel
theorem dX8_init_46 : decode cX8_init 46 = .ok (.aload_n 0, 1) := by decide +kernel
theorem dX8_init_47 : decode cX8_init 47 = .ok (.new 30, 3) := by decide +kernel
theorem dX8_init_50 : decode cX8_init 50 = .ok (.dup, 1) := by decide +kernel
theorem dX8_init_51 : decode cX8_init 51 = .ok (.aload_n 0, 1) := by decide +kernel
theorem dX8_init_52 : decode cX8_init 52 = .ok (.getfield 26, 3) := by decide +kernel
theorem dX8_init_55 : decode cX8_init 55 = .ok (.aload_n 0, 1) := by decide +kernel
theorem dX8_init_56 : decode cX8_init 56 = .ok (.getfield 22, 3) := by decide +kernel
theorem dX8_init_59 : decode cX8_init 59 = .ok (.invokespecial 32, 3) := by decide +kernel
theorem dX8_init_62 : decode cX8_init 62 = .ok (.putfield 35, 3) := by decide +kernel
theorem dX8_init_65 : decode cX8_init 65 = .ok (.aload_n 0, 1) := by decide +kernel
theorem dX8_init_66 : decode cX8_init 66 = .ok (.bipush 120, 2) := by decide +kernel
theorem dX8_init_68 : decode cX8_init 68 = .ok (.newarray .byte, 2) := by decide +kernel
theorem dX8_init_70 : decode cX8_init 70 = .ok (.putfield 39, 3) := by decide +kernel
theorem dX8_init_73 : decode cX8_init 73 = .ok (.aload_n 0, 1) := by decide +kernel
theorem dX8_init_74 : decode cX8_init 74 = .ok (.iconst 2, 1) := by decide +kernel
theorem dX8_init_75 : decode cX8_init 75 = .ok (.anewarray 7, 3) := by decide +kernel
theorem dX8_init_78 : decode cX8_init 78 = .ok (.putfield 42, 3) := by decide +kernel
theorem dX8_init_81 : decode cX8_init 81 = .ok (.aload_n 0, 1) := by decide +kernel
theorem dX8_init_82 : decode cX8_init 82 = .ok (.bipush 8, 2) := by decide +kernel
theorem dX8_init_84 : decode cX8_init 84 = .ok (.anewarray 7, 3) := by decide +kernel
theorem dX8_init_87 : decode cX8_init 87 = .ok (.putfield 46, 3) := by decide +kernel
theorem dX8_init_90 : decode cX8_init 90 = .ok (.ldc 49, 2) := by decide +kernel
theorem dX8_init_92 : decode cX8_init 92 = .ok (.invokevirtual 51, 3) := by decide +kernel
theorem dX8_init_95 : decode cX8_init 95 = .ok (.istore_n 1, 1) := by decide +kernel
theorem dX8_init_96 : decode cX8_init 96 = .ok (.iconst 0, 1) := by decide +kernel
theorem dX8_init_97 : decode cX8_init 97 = .ok (.istore_n 2, 1) := by decide +kernel
theorem dX8_init_98 : decode cX8_init 98 = .ok (.iload_n 2, 1) := by decide +kernel
theorem dX8_init_99 : decode cX8_init 99 = .ok (.iload_n 1, 1) := by decide +kernel
theorem dX8_init_100 : decode cX8_init 100 = .ok (.if_icmp .ge 29, 3) := by decide +kernel
theorem dX8_init_103 : decode cX8_init 103 = .ok (.iload_n 2, 1) := by decide +kernel
theorem dX8_init_104 : decode cX8_init 104 = .ok (.sipush 600, 3) := by decide +kernel
theorem dX8_init_107 : decode cX8_init 107 = .ok (.if_icmp .ge 22, 3) := by decide +kernel
theorem dX8_init_110 : decode cX8_init 110 = .ok (.aload_n 0, 1) := by decide +kernel
theorem dX8_init_111 : decode cX8_init 111 = .ok (.getfield 26, 3) := by decide +kernel
theorem dX8_init_114 : decode cX8_init 114 = .ok (.iload_n 2, 1) := by decide +kernel
theorem dX8_init_115 : decode cX8_init 115 = .ok (.ldc 49, 2) := by decide +kernel
theorem dX8_init_117 : decode cX8_init 117 = .ok (.iload_n 2, 1) := by decide +kernel
theorem dX8_init_118 : decode cX8_init 118 = .ok (.invokevirtual 57, 3) := by decide +kernel
theorem dX8_init_121 : decode cX8_init 121 = .ok (.i2b, 1) := by decide +kernel
theorem dX8_init_122 : decode cX8_init 122 = .ok (.bastore, 1) := by decide +kernel
theorem dX8_init_123 : decode cX8_init 123 = .ok (.iinc 2 1, 3) := by decide +kernel
theorem dX8_init_126 : decode cX8_init 126 = .ok (.goto (-28), 3) := by decide +kernel
theorem dX8_init_129 : decode cX8_init 129 = .ok (.aload_n 0, 1) := by decide +kernel
theorem dX8_init_130 : decode cX8_init 130 = .ok (.getfield 35, 3) := by decide +kernel
theorem dX8_init_133 : decode cX8_init 133 = .ok (.iload_n 1, 1) := by decide +kernel
theorem dX8_init_134 : decode cX8_init 134 = .ok (.aload_n 0, 1) := by decide +kernel
theorem dX8_init_135 : decode cX8_init 135 = .ok (.getfield 10, 3) := by decide +kernel
theorem dX8_init_138 : decode cX8_init 138 = .ok (.invokevirtual 61, 3) := by decide +kernel
theorem dX8_init_141 : decode cX8_init 141 = .ok (.aload_n 0, 1) := by decide +kernel
theorem dX8_init_142 : decode cX8_init 142 = .ok (.iconst (-1), 1) := by decide +kernel
theorem dX8_init_143 : decode cX8_init 143 = .ok (.putfield 65, 3) := by decide +kernel
theorem dX8_init_146 : decode cX8_init 146 = .ok (.return_, 1) := by decide +kernel
theorem dX8_appendInput_0 : decode cX8_appendInput 0 = .ok (.aload_n 0, 1) := by decide +kernel
theorem dX8_appendInput_1 : decode cX8_appendInput 1 = .ok (.getfield 69, 3) := by decide +kernel
theorem dX8_appendInput_4 : decode cX8_appendInput 4 = .ok (.sipush 580, 3) := by decide +kernel
theorem dX8_appendInput_7 : decode cX8_appendInput 7 = .ok (.if_icmp .le 13, 3) := by decide +kernel
theorem dX8_appendInput_10 : decode cX8_appendInput 10 = .ok (.new 72, 3) := by decide +kernel
theorem dX8_appendInput_13 : decode cX8_appendInput 13 = .ok (.dup, 1) := by decide +kernel
theorem dX8_appendInput_14 : decode cX8_appendInput 14 = .ok (.ldc 74, 2) := by decide +kernel
theorem dX8_appendInput_16 : decode cX8_appendInput 16 = .ok (.invokespecial 76, 3) := by decide +kernel
theorem dX8_appendInput_19 : decode cX8_appendInput 19 = .ok (.athrow, 1) := by decide +kernel
theorem dX8_appendInput_20 : decode cX8_appendInput 20 = .ok (.aload_n 0, 1) := by decide +kernel
theorem dX8_appendInput_21 : decode cX8_appendInput 21 = .ok (.iload_n 1, 1) := by decide +kernel
theorem dX8_appendInput_22 : decode cX8_appendInput 22 = .ok (.invokevirtual 79, 3) := by decide +kernel
theorem dX8_appendInput_25 : decode cX8_appendInput 25 = .ok (.aload_n 0, 1) := by decide +kernel
theorem dX8_appendInput_26 : decode cX8_appendInput 26 = .ok (.iload_n 2, 1) := by decide +kernel
theorem dX8_appendInput_27 : decode cX8_appendInput 27 = .ok (.invokevirtual 79, 3) := by decide +kernel
theorem dX8_appendInput_30 : decode cX8_appendInput 30 = .ok (.aload_n 0, 1) := by decide +kernel
theorem dX8_appendInput_31 : decode cX8_appendInput 31 = .ok (.iload_n 3, 1) := by decide +kernel
theorem dX8_appendInput_32 : decode cX8_appendInput 32 = .ok (.invokevirtual 79, 3) := by decide +kernel
theorem dX8_appendInput_35 : decode cX8_appendInput 35 = .ok (.aload_n 0, 1) := by decide +kernel
theorem dX8_appendInput_36 : decode cX8_appendInput 36 = .ok (.iload 4, 2) := by decide +kernel
theorem dX8_appendInput_38 : decode cX8_appendInput 38 = .ok (.invokevirtual 79, 3) := by decide +kernel
theorem dX8_appendInput_41 : decode cX8_appendInput 41 = .ok (.aload_n 0, 1) := by decide +kernel
theorem dX8_appendInput_42 : decode cX8_appendInput 42 = .ok (.iload 5, 2) := by decide +kernel
theorem dX8_appendInput_44 : decode cX8_appendInput 44 = .ok (.invokevirtual 79, 3) := by decide +kernel
theorem dX8_appendInput_47 : decode cX8_appendInput 47 = .ok (.aload_n 0, 1) := by decide +kernel
theorem dX8_appendInput_48 : decode cX8_appendInput 48 = .ok (.getfield 69, 3) := by decide +kernel
theorem dX8_appendInput_51 : decode cX8_appendInput 51 = .ok (.ireturn, 1) := by decide +kernel
theorem dX8_truncateInput_0 : decode cX8_truncateInput 0 = .ok (.iload_n 1, 1) := by decide +kernel
theorem dX8_truncateInput_1 : decode cX8_truncateInput 1 = .ok (.iconst 0, 1) := by decide +kernel
theorem dX8_truncateInput_2 : decode cX8_truncateInput 2 = .ok (.aload_n 0, 1) := by decide +kernel
theorem dX8_truncateInput_3 : decode cX8_truncateInput 3 = .ok (.getfield 69, 3) := by decide +kernel
theorem dX8_truncateInput_6 : decode cX8_truncateInput 6 = .ok (.invokestatic 83, 3) := by decide +kernel
theorem dX8_truncateInput_9 : decode cX8_truncateInput 9 = .ok (.aload_n 0, 1) := by decide +kernel
theorem dX8_truncateInput_10 : decode cX8_truncateInput 10 = .ok (.iload_n 1, 1) := by decide +kernel
theorem dX8_truncateInput_11 : decode cX8_truncateInput 11 = .ok (.putfield 69, 3) := by decide +kernel
theorem dX8_truncateInput_14 : decode cX8_truncateInput 14 = .ok (.aload_n 0, 1) := by decide +kernel
theorem dX8_truncateInput_15 : decode cX8_truncateInput 15 = .ok (.getfield 69, 3) := by decide +kernel
theorem dX8_truncateInput_18 : decode cX8_truncateInput 18 = .ok (.ireturn, 1) := by decide +kernel
theorem dX8_load_0 : decode cX8_load 0 = .ok (.aload_n 0, 1) := by decide +kernel
theorem dX8_load_1 : decode cX8_load 1 = .ok (.getfield 35, 3) := by decide +kernel
theorem dX8_load_4 : decode cX8_load 4 = .ok (.aload_n 0, 1) := by decide +kernel
theorem dX8_load_5 : decode cX8_load 5 = .ok (.getfield 69, 3) := by decide +kernel
theorem dX8_load_8 : decode cX8_load 8 = .ok (.aload_n 0, 1) := by decide +kernel
theorem dX8_load_9 : decode cX8_load 9 = .ok (.getfield 16, 3) := by decide +kernel
theorem dX8_load_12 : decode cX8_load 12 = .ok (.invokevirtual 61, 3) := by decide +kernel
theorem dX8_load_15 : decode cX8_load 15 = .ok (.aload_n 0, 1) := by decide +kernel
theorem dX8_load_16 : decode cX8_load 16 = .ok (.iconst 0, 1) := by decide +kernel
theorem dX8_load_17 : decode cX8_load 17 = .ok (.putfield 69, 3) := by decide +kernel
theorem dX8_load_20 : decode cX8_load 20 = .ok (.aload_n 0, 1) := by decide +kernel
theorem dX8_load_21 : decode cX8_load 21 = .ok (.aload_n 0, 1) := by decide +kernel
theorem dX8_load_22 : decode cX8_load 22 = .ok (.getfield 35, 3) := by decide +kernel
theorem dX8_load_25 : decode cX8_load 25 = .ok (.getfield 87, 3) := by decide +kernel
theorem dX8_load_28 : decode cX8_load 28 = .ok (.putfield 90, 3) := by decide +kernel
theorem dX8_load_31 : decode cX8_load 31 = .ok (.aload_n 0, 1) := by decide +kernel
theorem dX8_load_32 : decode cX8_load 32 = .ok (.aload_n 0, 1) := by decide +kernel
theorem dX8_load_33 : decode cX8_load 33 = .ok (.getfield 35, 3) := by decide +kernel
theorem dX8_load_36 : decode cX8_load 36 = .ok (.getfield 93, 3) := by decide +kernel
theorem dX8_load_39 : decode cX8_load 39 = .ok (.putfield 65, 3) := by decide +kernel
theorem dX8_load_42 : decode cX8_load 42 = .ok (.aload_n 0, 1) := by decide +kernel
theorem dX8_load_43 : decode cX8_load 43 = .ok (.getfield 90, 3) := by decide +kernel
theorem dX8_load_46 : decode cX8_load 46 = .ok (.ifCond .eq 13, 3) := by decide +kernel
theorem dX8_load_49 : decode cX8_load 49 = .ok (.new 96, 3) := by decide +kernel
theorem dX8_load_52 : decode cX8_load 52 = .ok (.dup, 1) := by decide +kernel
theorem dX8_load_53 : decode cX8_load 53 = .ok (.ldc 98, 2) := by decide +kernel
theorem dX8_load_55 : decode cX8_load 55 = .ok (.invokespecial 100, 3) := by decide +kernel
theorem dX8_load_58 : decode cX8_load 58 = .ok (.athrow, 1) := by decide +kernel
theorem dX8_load_59 : decode cX8_load 59 = .ok (.aload_n 0, 1) := by decide +kernel
theorem dX8_load_60 : decode cX8_load 60 = .ok (.invokevirtual 101, 3) := by decide +kernel
theorem dX8_load_63 : decode cX8_load 63 = .ok (.aload_n 0, 1) := by decide +kernel
theorem dX8_load_64 : decode cX8_load 64 = .ok (.getfield 10, 3) := by decide +kernel
theorem dX8_load_67 : decode cX8_load 67 = .ok (.aload_n 0, 1) := by decide +kernel
theorem dX8_load_68 : decode cX8_load 68 = .ok (.getfield 16, 3) := by decide +kernel
theorem dX8_load_71 : decode cX8_load 71 = .ok (.invokevirtual 104, 3) := by decide +kernel
theorem dX8_load_74 : decode cX8_load 74 = .ok (.aload_n 0, 1) := by decide +kernel
theorem dX8_load_75 : decode cX8_load 75 = .ok (.getfield 10, 3) := by decide +kernel
theorem dX8_load_78 : decode cX8_load 78 = .ok (.getfield 108, 3) := by decide +kernel
theorem dX8_load_81 : decode cX8_load 81 = .ok (.getfield 112, 3) := by decide +kernel
theorem dX8_load_84 : decode cX8_load 84 = .ok (.ireturn, 1) := by decide +kernel
theorem dX8_errorCode_0 : decode cX8_errorCode 0 = .ok (.aload_n 0, 1) := by decide +kernel
theorem dX8_errorCode_1 : decode cX8_errorCode 1 = .ok (.getfield 90, 3) := by decide +kernel
theorem dX8_errorCode_4 : decode cX8_errorCode 4 = .ok (.ireturn, 1) := by decide +kernel
theorem dX8_errorPosition_0 : decode cX8_errorPosition 0 = .ok (.aload_n 0, 1) := by decide +kernel
theorem dX8_errorPosition_1 : decode cX8_errorPosition 1 = .ok (.getfield 65, 3) := by decide +kernel
theorem dX8_errorPosition_4 : decode cX8_errorPosition 4 = .ok (.ireturn, 1) := by decide +kernel
theorem dX8_hour_0 : decode cX8_hour 0 = .ok (.aload_n 0, 1) := by decide +kernel
theorem dX8_hour_1 : decode cX8_hour 1 = .ok (.getfield 10, 3) := by decide +kernel
theorem dX8_hour_4 : decode cX8_hour 4 = .ok (.getfield 117, 3) := by decide +kernel
theorem dX8_hour_7 : decode cX8_hour 7 = .ok (.ireturn, 1) := by decide +kernel
theorem dX8_bakerCount_0 : decode cX8_bakerCount 0 = .ok (.aload_n 0, 1) := by decide +kernel
theorem dX8_bakerCount_1 : decode cX8_bakerCount 1 = .ok (.getfield 10, 3) := by decide +kernel
theorem dX8_bakerCount_4 : decode cX8_bakerCount 4 = .ok (.getfield 120, 3) := by decide +kernel
theorem dX8_bakerCount_7 : decode cX8_bakerCount 7 = .ok (.getfield 124, 3) := by decide +kernel
theorem dX8_bakerCount_10 : decode cX8_bakerCount 10 = .ok (.ireturn, 1) := by decide +kernel
theorem dX8_customerCount_0 : decode cX8_customerCount 0 = .ok (.aload_n 0, 1) := by decide +kernel
theorem dX8_customerCount_1 : decode cX8_customerCount 1 = .ok (.getfield 10, 3) := by decide +kernel
theorem dX8_customerCount_4 : decode cX8_customerCount 4 = .ok (.getfield 108, 3) := by decide +kernel
theorem dX8_customerCount_7 : decode cX8_customerCount 7 = .ok (.getfield 112, 3) := by decide +kernel
theorem dX8_customerCount_10 : decode cX8_customerCount 10 = .ok (.ireturn, 1) := by decide +kernel
theorem dX8_loafCount_0 : decode cX8_loafCount 0 = .ok (.aload_n 0, 1) := by decide +kernel
theorem dX8_loafCount_1 : decode cX8_loafCount 1 = .ok (.getfield 10, 3) := by decide +kernel
theorem dX8_loafCount_4 : decode cX8_loafCount 4 = .ok (.getfield 127, 3) := by decide +kernel
theorem dX8_loafCount_7 : decode cX8_loafCount 7 = .ok (.getfield 131, 3) := by decide +kernel
theorem dX8_loafCount_10 : decode cX8_loafCount 10 = .ok (.ireturn, 1) := by decide +kernel
theorem dX8_crumbs_0 : decode cX8_crumbs 0 = .ok (.aload_n 0, 1) := by decide +kernel
theorem dX8_crumbs_1 : decode cX8_crumbs 1 = .ok (.getfield 10, 3) := by decide +kernel
theorem dX8_crumbs_4 : decode cX8_crumbs 4 = .ok (.getfield 134, 3) := by decide +kernel
theorem dX8_crumbs_7 : decode cX8_crumbs 7 = .ok (.ireturn, 1) := by decide +kernel
theorem dX8_sparrows_0 : decode cX8_sparrows 0 = .ok (.aload_n 0, 1) := by decide +kernel
theorem dX8_sparrows_1 : decode cX8_sparrows 1 = .ok (.getfield 10, 3) := by decide +kernel
theorem dX8_sparrows_4 : decode cX8_sparrows 4 = .ok (.getfield 137, 3) := by decide +kernel
theorem dX8_sparrows_7 : decode cX8_sparrows 7 = .ok (.ireturn, 1) := by decide +kernel
theorem dX8_bakerNameByte_0 : decode cX8_bakerNameByte 0 = .ok (.aload_n 0, 1) := by decide +kernel
theorem dX8_bakerNameByte_1 : decode cX8_bakerNameByte 1 = .ok (.iload_n 1, 1) := by decide +kernel
theorem dX8_bakerNameByte_2 : decode cX8_bakerNameByte 2 = .ok (.invokevirtual 140, 3) := by decide +kernel
theorem dX8_bakerNameByte_5 : decode cX8_bakerNameByte 5 = .ok (.aload_n 0, 1) := by decide +kernel
theorem dX8_bakerNameByte_6 : decode cX8_bakerNameByte 6 = .ok (.getfield 10, 3) := by decide +kernel
theorem dX8_bakerNameByte_9 : decode cX8_bakerNameByte 9 = .ok (.getfield 120, 3) := by decide +kernel
theorem dX8_bakerNameByte_12 : decode cX8_bakerNameByte 12 = .ok (.getfield 143, 3) := by decide +kernel
theorem dX8_bakerNameByte_15 : decode cX8_bakerNameByte 15 = .ok (.iload_n 1, 1) := by decide +kernel
theorem dX8_bakerNameByte_16 : decode cX8_bakerNameByte 16 = .ok (.iaload, 1) := by decide +kernel
theorem dX8_bakerNameByte_17 : decode cX8_bakerNameByte 17 = .ok (.iload_n 2, 1) := by decide +kernel
theorem dX8_bakerNameByte_18 : decode cX8_bakerNameByte 18 = .ok (.invokestatic 147, 3) := by decide +kernel
theorem dX8_bakerNameByte_21 : decode cX8_bakerNameByte 21 = .ok (.ireturn, 1) := by decide +kernel
theorem dX8_ovenSize_0 : decode cX8_ovenSize 0 = .ok (.aload_n 0, 1) := by decide +kernel
theorem dX8_ovenSize_1 : decode cX8_ovenSize 1 = .ok (.iload_n 1, 1) := by decide +kernel
theorem dX8_ovenSize_2 : decode cX8_ovenSize 2 = .ok (.invokevirtual 140, 3) := by decide +kernel
theorem dX8_ovenSize_5 : decode cX8_ovenSize 5 = .ok (.aload_n 0, 1) := by decide +kernel
theorem dX8_ovenSize_6 : decode cX8_ovenSize 6 = .ok (.getfield 10, 3) := by decide +kernel
theorem dX8_ovenSize_9 : decode cX8_ovenSize 9 = .ok (.getfield 120, 3) := by decide +kernel
theorem dX8_ovenSize_12 : decode cX8_ovenSize 12 = .ok (.getfield 151, 3) := by decide +kernel
theorem dX8_ovenSize_15 : decode cX8_ovenSize 15 = .ok (.iload_n 1, 1) := by decide +kernel
theorem dX8_ovenSize_16 : decode cX8_ovenSize 16 = .ok (.iaload, 1) := by decide +kernel
theorem dX8_ovenSize_17 : decode cX8_ovenSize 17 = .ok (.ireturn, 1) := by decide +kernel
theorem dX8_bakingKind_0 : decode cX8_bakingKind 0 = .ok (.aload_n 0, 1) := by decide +kernel
theorem dX8_bakingKind_1 : decode cX8_bakingKind 1 = .ok (.iload_n 1, 1) := by decide +kernel
theorem dX8_bakingKind_2 : decode cX8_bakingKind 2 = .ok (.invokevirtual 140, 3) := by decide +kernel
theorem dX8_bakingKind_5 : decode cX8_bakingKind 5 = .ok (.aload_n 0, 1) := by decide +kernel
theorem dX8_bakingKind_6 : decode cX8_bakingKind 6 = .ok (.getfield 10, 3) := by decide +kernel
theorem dX8_bakingKind_9 : decode cX8_bakingKind 9 = .ok (.getfield 120, 3) := by decide +kernel
theorem dX8_bakingKind_12 : decode cX8_bakingKind 12 = .ok (.getfield 154, 3) := by decide +kernel
theorem dX8_bakingKind_15 : decode cX8_bakingKind 15 = .ok (.iload_n 1, 1) := by decide +kernel
theorem dX8_bakingKind_16 : decode cX8_bakingKind 16 = .ok (.iaload, 1) := by decide +kernel
theorem dX8_bakingKind_17 : decode cX8_bakingKind 17 = .ok (.ireturn, 1) := by decide +kernel
theorem dX8_hoursLeft_0 : decode cX8_hoursLeft 0 = .ok (.aload_n 0, 1) := by decide +kernel
theorem dX8_hoursLeft_1 : decode cX8_hoursLeft 1 = .ok (.iload_n 1, 1) := by decide +kernel
theorem dX8_hoursLeft_2 : decode cX8_hoursLeft 2 = .ok (.invokevirtual 140, 3) := by decide +kernel
theorem dX8_hoursLeft_5 : decode cX8_hoursLeft 5 = .ok (.aload_n 0, 1) := by decide +kernel
theorem dX8_hoursLeft_6 : decode cX8_hoursLeft 6 = .ok (.getfield 10, 3) := by decide +kernel
theorem dX8_hoursLeft_9 : decode cX8_hoursLeft 9 = .ok (.getfield 120, 3) := by decide +kernel
theorem dX8_hoursLeft_12 : decode cX8_hoursLeft 12 = .ok (.getfield 157, 3) := by decide +kernel
theorem dX8_hoursLeft_15 : decode cX8_hoursLeft 15 = .ok (.iload_n 1, 1) := by decide +kernel
theorem dX8_hoursLeft_16 : decode cX8_hoursLeft 16 = .ok (.iaload, 1) := by decide +kernel
theorem dX8_hoursLeft_17 : decode cX8_hoursLeft 17 = .ok (.ireturn, 1) := by decide +kernel
theorem dX8_income_0 : decode cX8_income 0 = .ok (.aload_n 0, 1) := by decide +kernel
theorem dX8_income_1 : decode cX8_income 1 = .ok (.iload_n 1, 1) := by decide +kernel
theorem dX8_income_2 : decode cX8_income 2 = .ok (.invokevirtual 140, 3) := by decide +kernel
theorem dX8_income_5 : decode cX8_income 5 = .ok (.aload_n 0, 1) := by decide +kernel
theorem dX8_income_6 : decode cX8_income 6 = .ok (.getfield 10, 3) := by decide +kernel
theorem dX8_income_9 : decode cX8_income 9 = .ok (.getfield 120, 3) := by decide +kernel
theorem dX8_income_12 : decode cX8_income 12 = .ok (.getfield 160, 3) := by decide +kernel
theorem dX8_income_15 : decode cX8_income 15 = .ok (.iload_n 1, 1) := by decide +kernel
theorem dX8_income_16 : decode cX8_income 16 = .ok (.iaload, 1) := by decide +kernel
theorem dX8_income_17 : decode cX8_income 17 = .ok (.ireturn, 1) := by decide +kernel
theorem dX8_bakeRefusal_0 : decode cX8_bakeRefusal 0 = .ok (.aload_n 0, 1) := by decide +kernel
theorem dX8_bakeRefusal_1 : decode cX8_bakeRefusal 1 = .ok (.iload_n 1, 1) := by decide +kernel
theorem dX8_bakeRefusal_2 : decode cX8_bakeRefusal 2 = .ok (.invokevirtual 140, 3) := by decide +kernel
theorem dX8_bakeRefusal_5 : decode cX8_bakeRefusal 5 = .ok (.iload_n 2, 1) := by decide +kernel
theorem dX8_bakeRefusal_6 : decode cX8_bakeRefusal 6 = .ok (.invokestatic 163, 3) := by decide +kernel
theorem dX8_bakeRefusal_9 : decode cX8_bakeRefusal 9 = .ok (.aload_n 0, 1) := by decide +kernel
theorem dX8_bakeRefusal_10 : decode cX8_bakeRefusal 10 = .ok (.getfield 10, 3) := by decide +kernel
theorem dX8_bakeRefusal_13 : decode cX8_bakeRefusal 13 = .ok (.iload_n 1, 1) := by decide +kernel
theorem dX8_bakeRefusal_14 : decode cX8_bakeRefusal 14 = .ok (.invokevirtual 166, 3) := by decide +kernel
theorem dX8_bakeRefusal_17 : decode cX8_bakeRefusal 17 = .ok (.ireturn, 1) := by decide +kernel
theorem dX8_customerNameByte_0 : decode cX8_customerNameByte 0 = .ok (.aload_n 0, 1) := by decide +kernel
theorem dX8_customerNameByte_1 : decode cX8_customerNameByte 1 = .ok (.iload_n 1, 1) := by decide +kernel
theorem dX8_customerNameByte_2 : decode cX8_customerNameByte 2 = .ok (.invokevirtual 170, 3) := by decide +kernel
theorem dX8_customerNameByte_5 : decode cX8_customerNameByte 5 = .ok (.aload_n 0, 1) := by decide +kernel
theorem dX8_customerNameByte_6 : decode cX8_customerNameByte 6 = .ok (.getfield 10, 3) := by decide +kernel
theorem dX8_customerNameByte_9 : decode cX8_customerNameByte 9 = .ok (.getfield 108, 3) := by decide +kernel
theorem dX8_customerNameByte_12 : decode cX8_customerNameByte 12 = .ok (.getfield 173, 3) := by decide +kernel
theorem dX8_customerNameByte_15 : decode cX8_customerNameByte 15 = .ok (.iload_n 1, 1) := by decide +kernel
theorem dX8_customerNameByte_16 : decode cX8_customerNameByte 16 = .ok (.iaload, 1) := by decide +kernel
theorem dX8_customerNameByte_17 : decode cX8_customerNameByte 17 = .ok (.iload_n 2, 1) := by decide +kernel
theorem dX8_customerNameByte_18 : decode cX8_customerNameByte 18 = .ok (.invokestatic 147, 3) := by decide +kernel
theorem dX8_customerNameByte_21 : decode cX8_customerNameByte 21 = .ok (.ireturn, 1) := by decide +kernel
theorem dX8_ticketOf_0 : decode cX8_ticketOf 0 = .ok (.aload_n 0, 1) := by decide +kernel
theorem dX8_ticketOf_1 : decode cX8_ticketOf 1 = .ok (.iload_n 1, 1) := by decide +kernel
theorem dX8_ticketOf_2 : decode cX8_ticketOf 2 = .ok (.invokevirtual 170, 3) := by decide +kernel
theorem dX8_ticketOf_5 : decode cX8_ticketOf 5 = .ok (.aload_n 0, 1) := by decide +kernel
theorem dX8_ticketOf_6 : decode cX8_ticketOf 6 = .ok (.getfield 10, 3) := by decide +kernel
theorem dX8_ticketOf_9 : decode cX8_ticketOf 9 = .ok (.getfield 108, 3) := by decide +kernel
theorem dX8_ticketOf_12 : decode cX8_ticketOf 12 = .ok (.getfield 174, 3) := by decide +kernel
theorem dX8_ticketOf_15 : decode cX8_ticketOf 15 = .ok (.iload_n 1, 1) := by decide +kernel
theorem dX8_ticketOf_16 : decode cX8_ticketOf 16 = .ok (.iaload, 1) := by decide +kernel
theorem dX8_ticketOf_17 : decode cX8_ticketOf 17 = .ok (.ireturn, 1) := by decide +kernel
theorem dX8_kindWanted_0 : decode cX8_kindWanted 0 = .ok (.aload_n 0, 1) := by decide +kernel
theorem dX8_kindWanted_1 : decode cX8_kindWanted 1 = .ok (.iload_n 1, 1) := by decide +kernel
theorem dX8_kindWanted_2 : decode cX8_kindWanted 2 = .ok (.invokevirtual 170, 3) := by decide +kernel
theorem dX8_kindWanted_5 : decode cX8_kindWanted 5 = .ok (.aload_n 0, 1) := by decide +kernel
theorem dX8_kindWanted_6 : decode cX8_kindWanted 6 = .ok (.getfield 10, 3) := by decide +kernel
theorem dX8_kindWanted_9 : decode cX8_kindWanted 9 = .ok (.getfield 108, 3) := by decide +kernel
theorem dX8_kindWanted_12 : decode cX8_kindWanted 12 = .ok (.getfield 177, 3) := by decide +kernel
theorem dX8_kindWanted_15 : decode cX8_kindWanted 15 = .ok (.iload_n 1, 1) := by decide +kernel
theorem dX8_kindWanted_16 : decode cX8_kindWanted 16 = .ok (.iaload, 1) := by decide +kernel
theorem dX8_kindWanted_17 : decode cX8_kindWanted 17 = .ok (.ireturn, 1) := by decide +kernel
theorem dX8_wanted_0 : decode cX8_wanted 0 = .ok (.aload_n 0, 1) := by decide +kernel
theorem dX8_wanted_1 : decode cX8_wanted 1 = .ok (.iload_n 1, 1) := by decide +kernel
theorem dX8_wanted_2 : decode cX8_wanted 2 = .ok (.invokevirtual 170, 3) := by decide +kernel
theorem dX8_wanted_5 : decode cX8_wanted 5 = .ok (.aload_n 0, 1) := by decide +kernel
theorem dX8_wanted_6 : decode cX8_wanted 6 = .ok (.getfield 10, 3) := by decide +kernel
theorem dX8_wanted_9 : decode cX8_wanted 9 = .ok (.getfield 108, 3) := by decide +kernel
theorem dX8_wanted_12 : decode cX8_wanted 12 = .ok (.getfield 178, 3) := by decide +kernel
theorem dX8_wanted_15 : decode cX8_wanted 15 = .ok (.iload_n 1, 1) := by decide +kernel
theorem dX8_wanted_16 : decode cX8_wanted 16 = .ok (.iaload, 1) := by decide +kernel
theorem dX8_wanted_17 : decode cX8_wanted 17 = .ok (.ireturn, 1) := by decide +kernel
theorem dX8_limitPrice_0 : decode cX8_limitPrice 0 = .ok (.aload_n 0, 1) := by decide +kernel
theorem dX8_limitPrice_1 : decode cX8_limitPrice 1 = .ok (.iload_n 1, 1) := by decide +kernel
theorem dX8_limitPrice_2 : decode cX8_limitPrice 2 = .ok (.invokevirtual 170, 3) := by decide +kernel
theorem dX8_limitPrice_5 : decode cX8_limitPrice 5 = .ok (.aload_n 0, 1) := by decide +kernel
theorem dX8_limitPrice_6 : decode cX8_limitPrice 6 = .ok (.getfield 10, 3) := by decide +kernel
theorem dX8_limitPrice_9 : decode cX8_limitPrice 9 = .ok (.getfield 108, 3) := by decide +kernel
theorem dX8_limitPrice_12 : decode cX8_limitPrice 12 = .ok (.getfield 181, 3) := by decide +kernel
theorem dX8_limitPrice_15 : decode cX8_limitPrice 15 = .ok (.iload_n 1, 1) := by decide +kernel
theorem dX8_limitPrice_16 : decode cX8_limitPrice 16 = .ok (.iaload, 1) := by decide +kernel
theorem dX8_limitPrice_17 : decode cX8_limitPrice 17 = .ok (.ireturn, 1) := by decide +kernel
theorem dX8_purse_0 : decode cX8_purse 0 = .ok (.aload_n 0, 1) := by decide +kernel
theorem dX8_purse_1 : decode cX8_purse 1 = .ok (.iload_n 1, 1) := by decide +kernel
theorem dX8_purse_2 : decode cX8_purse 2 = .ok (.invokevirtual 170, 3) := by decide +kernel
theorem dX8_purse_5 : decode cX8_purse 5 = .ok (.aload_n 0, 1) := by decide +kernel
theorem dX8_purse_6 : decode cX8_purse 6 = .ok (.getfield 10, 3) := by decide +kernel
theorem dX8_purse_9 : decode cX8_purse 9 = .ok (.getfield 108, 3) := by decide +kernel
theorem dX8_purse_12 : decode cX8_purse 12 = .ok (.getfield 184, 3) := by decide +kernel
theorem dX8_purse_15 : decode cX8_purse 15 = .ok (.iload_n 1, 1) := by decide +kernel
theorem dX8_purse_16 : decode cX8_purse 16 = .ok (.iaload, 1) := by decide +kernel
theorem dX8_purse_17 : decode cX8_purse 17 = .ok (.ireturn, 1) := by decide +kernel
theorem dX8_patience_0 : decode cX8_patience 0 = .ok (.aload_n 0, 1) := by decide +kernel
theorem dX8_patience_1 : decode cX8_patience 1 = .ok (.iload_n 1, 1) := by decide +kernel
theorem dX8_patience_2 : decode cX8_patience 2 = .ok (.invokevirtual 170, 3) := by decide +kernel
theorem dX8_patience_5 : decode cX8_patience 5 = .ok (.aload_n 0, 1) := by decide +kernel
theorem dX8_patience_6 : decode cX8_patience 6 = .ok (.getfield 10, 3) := by decide +kernel
theorem dX8_patience_9 : decode cX8_patience 9 = .ok (.getfield 108, 3) := by decide +kernel
theorem dX8_patience_12 : decode cX8_patience 12 = .ok (.getfield 187, 3) := by decide +kernel
theorem dX8_patience_15 : decode cX8_patience 15 = .ok (.iload_n 1, 1) := by decide +kernel
theorem dX8_patience_16 : decode cX8_patience 16 = .ok (.iaload, 1) := by decide +kernel
theorem dX8_patience_17 : decode cX8_patience 17 = .ok (.ireturn, 1) := by decide +kernel
theorem dX8_customerWithTicket_0 : decode cX8_customerWithTicket 0 = .ok (.aload_n 0, 1) := by decide +kernel
theorem dX8_customerWithTicket_1 : decode cX8_customerWithTicket 1 = .ok (.getfield 10, 3) := by decide +kernel
theorem dX8_customerWithTicket_4 : decode cX8_customerWithTicket 4 = .ok (.getfield 108, 3) := by decide +kernel
theorem dX8_customerWithTicket_7 : decode cX8_customerWithTicket 7 = .ok (.getfield 174, 3) := by decide +kernel
theorem dX8_customerWithTicket_10 : decode cX8_customerWithTicket 10 = .ok (.aload_n 0, 1) := by decide +kernel
theorem dX8_customerWithTicket_11 : decode cX8_customerWithTicket 11 = .ok (.getfield 10, 3) := by decide +kernel
theorem dX8_customerWithTicket_14 : decode cX8_customerWithTicket 14 = .ok (.getfield 108, 3) := by decide +kernel
theorem dX8_customerWithTicket_17 : decode cX8_customerWithTicket 17 = .ok (.getfield 112, 3) := by decide +kernel
theorem dX8_customerWithTicket_20 : decode cX8_customerWithTicket 20 = .ok (.iload_n 1, 1) := by decide +kernel
theorem dX8_customerWithTicket_21 : decode cX8_customerWithTicket 21 = .ok (.invokestatic 190, 3) := by decide +kernel
theorem dX8_customerWithTicket_24 : decode cX8_customerWithTicket 24 = .ok (.ireturn, 1) := by decide +kernel
theorem dX8_loafKind_0 : decode cX8_loafKind 0 = .ok (.aload_n 0, 1) := by decide +kernel
theorem dX8_loafKind_1 : decode cX8_loafKind 1 = .ok (.iload_n 1, 1) := by decide +kernel
theorem dX8_loafKind_2 : decode cX8_loafKind 2 = .ok (.invokevirtual 194, 3) := by decide +kernel
theorem dX8_loafKind_5 : decode cX8_loafKind 5 = .ok (.aload_n 0, 1) := by decide +kernel
theorem dX8_loafKind_6 : decode cX8_loafKind 6 = .ok (.getfield 10, 3) := by decide +kernel
theorem dX8_loafKind_9 : decode cX8_loafKind 9 = .ok (.getfield 127, 3) := by decide +kernel
theorem dX8_loafKind_12 : decode cX8_loafKind 12 = .ok (.getfield 197, 3) := by decide +kernel
theorem dX8_loafKind_15 : decode cX8_loafKind 15 = .ok (.iload_n 1, 1) := by decide +kernel
theorem dX8_loafKind_16 : decode cX8_loafKind 16 = .ok (.iaload, 1) := by decide +kernel
theorem dX8_loafKind_17 : decode cX8_loafKind 17 = .ok (.ireturn, 1) := by decide +kernel
theorem dX8_loafBaker_0 : decode cX8_loafBaker 0 = .ok (.aload_n 0, 1) := by decide +kernel
theorem dX8_loafBaker_1 : decode cX8_loafBaker 1 = .ok (.iload_n 1, 1) := by decide +kernel
theorem dX8_loafBaker_2 : decode cX8_loafBaker 2 = .ok (.invokevirtual 194, 3) := by decide +kernel
theorem dX8_loafBaker_5 : decode cX8_loafBaker 5 = .ok (.aload_n 0, 1) := by decide +kernel
theorem dX8_loafBaker_6 : decode cX8_loafBaker 6 = .ok (.getfield 10, 3) := by decide +kernel
theorem dX8_loafBaker_9 : decode cX8_loafBaker 9 = .ok (.getfield 127, 3) := by decide +kernel
theorem dX8_loafBaker_12 : decode cX8_loafBaker 12 = .ok (.getfield 198, 3) := by decide +kernel
theorem dX8_loafBaker_15 : decode cX8_loafBaker 15 = .ok (.iload_n 1, 1) := by decide +kernel
theorem dX8_loafBaker_16 : decode cX8_loafBaker 16 = .ok (.iaload, 1) := by decide +kernel
theorem dX8_loafBaker_17 : decode cX8_loafBaker 17 = .ok (.ireturn, 1) := by decide +kernel
theorem dX8_loafAge_0 : decode cX8_loafAge 0 = .ok (.aload_n 0, 1) := by decide +kernel
theorem dX8_loafAge_1 : decode cX8_loafAge 1 = .ok (.iload_n 1, 1) := by decide +kernel
theorem dX8_loafAge_2 : decode cX8_loafAge 2 = .ok (.invokevirtual 194, 3) := by decide +kernel
theorem dX8_loafAge_5 : decode cX8_loafAge 5 = .ok (.aload_n 0, 1) := by decide +kernel
theorem dX8_loafAge_6 : decode cX8_loafAge 6 = .ok (.getfield 10, 3) := by decide +kernel
theorem dX8_loafAge_9 : decode cX8_loafAge 9 = .ok (.iload_n 1, 1) := by decide +kernel
theorem dX8_loafAge_10 : decode cX8_loafAge 10 = .ok (.invokevirtual 201, 3) := by decide +kernel
theorem dX8_loafAge_13 : decode cX8_loafAge 13 = .ok (.ireturn, 1) := by decide +kernel
theorem dX8_reservePrice_0 : decode cX8_reservePrice 0 = .ok (.aload_n 0, 1) := by decide +kernel
theorem dX8_reservePrice_1 : decode cX8_reservePrice 1 = .ok (.iload_n 1, 1) := by decide +kernel
theorem dX8_reservePrice_2 : decode cX8_reservePrice 2 = .ok (.invokevirtual 194, 3) := by decide +kernel
theorem dX8_reservePrice_5 : decode cX8_reservePrice 5 = .ok (.aload_n 0, 1) := by decide +kernel
theorem dX8_reservePrice_6 : decode cX8_reservePrice 6 = .ok (.getfield 10, 3) := by decide +kernel
theorem dX8_reservePrice_9 : decode cX8_reservePrice 9 = .ok (.iload_n 1, 1) := by decide +kernel
theorem dX8_reservePrice_10 : decode cX8_reservePrice 10 = .ok (.invokevirtual 204, 3) := by decide +kernel
theorem dX8_reservePrice_13 : decode cX8_reservePrice 13 = .ok (.ireturn, 1) := by decide +kernel
theorem dX8_hoursUntilStale_0 : decode cX8_hoursUntilStale 0 = .ok (.aload_n 0, 1) := by decide +kernel
theorem dX8_hoursUntilStale_1 : decode cX8_hoursUntilStale 1 = .ok (.iload_n 1, 1) := by decide +kernel
theorem dX8_hoursUntilStale_2 : decode cX8_hoursUntilStale 2 = .ok (.invokevirtual 194, 3) := by decide +kernel
theorem dX8_hoursUntilStale_5 : decode cX8_hoursUntilStale 5 = .ok (.aload_n 0, 1) := by decide +kernel
theorem dX8_hoursUntilStale_6 : decode cX8_hoursUntilStale 6 = .ok (.getfield 10, 3) := by decide +kernel
theorem dX8_hoursUntilStale_9 : decode cX8_hoursUntilStale 9 = .ok (.getfield 127, 3) := by decide +kernel
theorem dX8_hoursUntilStale_12 : decode cX8_hoursUntilStale 12 = .ok (.getfield 197, 3) := by decide +kernel
theorem dX8_hoursUntilStale_15 : decode cX8_hoursUntilStale 15 = .ok (.iload_n 1, 1) := by decide +kernel
theorem dX8_hoursUntilStale_16 : decode cX8_hoursUntilStale 16 = .ok (.iaload, 1) := by decide +kernel
theorem dX8_hoursUntilStale_17 : decode cX8_hoursUntilStale 17 = .ok (.istore_n 2, 1) := by decide +kernel
theorem dX8_hoursUntilStale_18 : decode cX8_hoursUntilStale 18 = .ok (.aload_n 0, 1) := by decide +kernel
theorem dX8_hoursUntilStale_19 : decode cX8_hoursUntilStale 19 = .ok (.getfield 10, 3) := by decide +kernel
theorem dX8_hoursUntilStale_22 : decode cX8_hoursUntilStale 22 = .ok (.iload_n 1, 1) := by decide +kernel
theorem dX8_hoursUntilStale_23 : decode cX8_hoursUntilStale 23 = .ok (.invokevirtual 201, 3) := by decide +kernel
theorem dX8_hoursUntilStale_26 : decode cX8_hoursUntilStale 26 = .ok (.istore_n 3, 1) := by decide +kernel
theorem dX8_hoursUntilStale_27 : decode cX8_hoursUntilStale 27 = .ok (.iconst 0, 1) := by decide +kernel
theorem dX8_hoursUntilStale_28 : decode cX8_hoursUntilStale 28 = .ok (.istore 4, 2) := by decide +kernel
theorem dX8_hoursUntilStale_30 : decode cX8_hoursUntilStale 30 = .ok (.iload 4, 2) := by decide +kernel
theorem dX8_hoursUntilStale_32 : decode cX8_hoursUntilStale 32 = .ok (.bipush 100, 2) := by decide +kernel
theorem dX8_hoursUntilStale_34 : decode cX8_hoursUntilStale 34 = .ok (.if_icmp .gt 31, 3) := by decide +kernel
theorem dX8_hoursUntilStale_37 : decode cX8_hoursUntilStale 37 = .ok (.iload_n 2, 1) := by decide +kernel
theorem dX8_hoursUntilStale_38 : decode cX8_hoursUntilStale 38 = .ok (.aload_n 0, 1) := by decide +kernel
theorem dX8_hoursUntilStale_39 : decode cX8_hoursUntilStale 39 = .ok (.getfield 10, 3) := by decide +kernel
theorem dX8_hoursUntilStale_42 : decode cX8_hoursUntilStale 42 = .ok (.iload_n 2, 1) := by decide +kernel
theorem dX8_hoursUntilStale_43 : decode cX8_hoursUntilStale 43 = .ok (.invokevirtual 207, 3) := by decide +kernel
theorem dX8_hoursUntilStale_46 : decode cX8_hoursUntilStale 46 = .ok (.iload_n 3, 1) := by decide +kernel
theorem dX8_hoursUntilStale_47 : decode cX8_hoursUntilStale 47 = .ok (.iload 4, 2) := by decide +kernel
theorem dX8_hoursUntilStale_49 : decode cX8_hoursUntilStale 49 = .ok (.iadd, 1) := by decide +kernel
theorem dX8_hoursUntilStale_50 : decode cX8_hoursUntilStale 50 = .ok (.invokestatic 210, 3) := by decide +kernel
theorem dX8_hoursUntilStale_53 : decode cX8_hoursUntilStale 53 = .ok (.ifCond .ne 6, 3) := by decide +kernel
theorem dX8_hoursUntilStale_56 : decode cX8_hoursUntilStale 56 = .ok (.iload 4, 2) := by decide +kernel
theorem dX8_hoursUntilStale_58 : decode cX8_hoursUntilStale 58 = .ok (.ireturn, 1) := by decide +kernel
theorem dX8_hoursUntilStale_59 : decode cX8_hoursUntilStale 59 = .ok (.iinc 4 1, 3) := by decide +kernel
theorem dX8_hoursUntilStale_62 : decode cX8_hoursUntilStale 62 = .ok (.goto (-32), 3) := by decide +kernel
theorem dX8_hoursUntilStale_65 : decode cX8_hoursUntilStale 65 = .ok (.iconst (-1), 1) := by decide +kernel
theorem dX8_hoursUntilStale_66 : decode cX8_hoursUntilStale 66 = .ok (.ireturn, 1) := by decide +kernel
theorem dX8_basePrice_0 : decode cX8_basePrice 0 = .ok (.iload_n 1, 1) := by decide +kernel
theorem dX8_basePrice_1 : decode cX8_basePrice 1 = .ok (.invokestatic 163, 3) := by decide +kernel
theorem dX8_basePrice_4 : decode cX8_basePrice 4 = .ok (.aload_n 0, 1) := by decide +kernel
theorem dX8_basePrice_5 : decode cX8_basePrice 5 = .ok (.getfield 10, 3) := by decide +kernel
theorem dX8_basePrice_8 : decode cX8_basePrice 8 = .ok (.iload_n 1, 1) := by decide +kernel
theorem dX8_basePrice_9 : decode cX8_basePrice 9 = .ok (.invokevirtual 207, 3) := by decide +kernel
theorem dX8_basePrice_12 : decode cX8_basePrice 12 = .ok (.ireturn, 1) := by decide +kernel
theorem dX8_reserveAt_0 : decode cX8_reserveAt 0 = .ok (.iload_n 1, 1) := by decide +kernel
