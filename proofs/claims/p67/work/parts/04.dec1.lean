theorem dX0_init_0 : decode cX0_init 0 = .ok (.aload_n 0, 1) := by decide +kernel
theorem dX0_init_1 : decode cX0_init 1 = .ok (.invokespecial 3, 3) := by decide +kernel
theorem dX0_init_4 : decode cX0_init 4 = .ok (.aload_n 0, 1) := by decide +kernel
theorem dX0_init_5 : decode cX0_init 5 = .ok (.bipush 90, 2) := by decide +kernel
theorem dX0_init_7 : decode cX0_init 7 = .ok (.newarray .int, 2) := by decide +kernel
theorem dX0_init_9 : decode cX0_init 9 = .ok (.putfield 9, 3) := by decide +kernel
theorem dX0_init_12 : decode cX0_init 12 = .ok (.aload_n 0, 1) := by decide +kernel
theorem dX0_init_13 : decode cX0_init 13 = .ok (.bipush 90, 2) := by decide +kernel
theorem dX0_init_15 : decode cX0_init 15 = .ok (.newarray .int, 2) := by decide +kernel
theorem dX0_init_17 : decode cX0_init 17 = .ok (.putfield 15, 3) := by decide +kernel
theorem dX0_init_20 : decode cX0_init 20 = .ok (.aload_n 0, 1) := by decide +kernel
theorem dX0_init_21 : decode cX0_init 21 = .ok (.bipush 60, 2) := by decide +kernel
theorem dX0_init_23 : decode cX0_init 23 = .ok (.newarray .int, 2) := by decide +kernel
theorem dX0_init_25 : decode cX0_init 25 = .ok (.putfield 18, 3) := by decide +kernel
theorem dX0_init_28 : decode cX0_init 28 = .ok (.aload_n 0, 1) := by decide +kernel
theorem dX0_init_29 : decode cX0_init 29 = .ok (.bipush 60, 2) := by decide +kernel
theorem dX0_init_31 : decode cX0_init 31 = .ok (.newarray .int, 2) := by decide +kernel
theorem dX0_init_33 : decode cX0_init 33 = .ok (.putfield 21, 3) := by decide +kernel
theorem dX0_init_36 : decode cX0_init 36 = .ok (.return_, 1) := by decide +kernel
theorem dX0_prepare_0 : decode cX0_prepare 0 = .ok (.aload_n 0, 1) := by decide +kernel
theorem dX0_prepare_1 : decode cX0_prepare 1 = .ok (.iconst 0, 1) := by decide +kernel
theorem dX0_prepare_2 : decode cX0_prepare 2 = .ok (.putfield 24, 3) := by decide +kernel
theorem dX0_prepare_5 : decode cX0_prepare 5 = .ok (.iconst 0, 1) := by decide +kernel
theorem dX0_prepare_6 : decode cX0_prepare 6 = .ok (.istore_n 3, 1) := by decide +kernel
theorem dX0_prepare_7 : decode cX0_prepare 7 = .ok (.iload_n 3, 1) := by decide +kernel
theorem dX0_prepare_8 : decode cX0_prepare 8 = .ok (.aload_n 1, 1) := by decide +kernel
theorem dX0_prepare_9 : decode cX0_prepare 9 = .ok (.getfield 28, 3) := by decide +kernel
theorem dX0_prepare_12 : decode cX0_prepare 12 = .ok (.getfield 34, 3) := by decide +kernel
theorem dX0_prepare_15 : decode cX0_prepare 15 = .ok (.if_icmp .ge 32, 3) := by decide +kernel
theorem dX0_prepare_18 : decode cX0_prepare 18 = .ok (.aload_n 0, 1) := by decide +kernel
theorem dX0_prepare_19 : decode cX0_prepare 19 = .ok (.iload_n 3, 1) := by decide +kernel
theorem dX0_prepare_20 : decode cX0_prepare 20 = .ok (.aload_n 1, 1) := by decide +kernel
theorem dX0_prepare_21 : decode cX0_prepare 21 = .ok (.getfield 28, 3) := by decide +kernel
theorem dX0_prepare_24 : decode cX0_prepare 24 = .ok (.getfield 39, 3) := by decide +kernel
theorem dX0_prepare_27 : decode cX0_prepare 27 = .ok (.iload_n 3, 1) := by decide +kernel
theorem dX0_prepare_28 : decode cX0_prepare 28 = .ok (.iaload, 1) := by decide +kernel
theorem dX0_prepare_29 : decode cX0_prepare 29 = .ok (.aload_n 1, 1) := by decide +kernel
theorem dX0_prepare_30 : decode cX0_prepare 30 = .ok (.getfield 28, 3) := by decide +kernel
theorem dX0_prepare_33 : decode cX0_prepare 33 = .ok (.iload_n 3, 1) := by decide +kernel
theorem dX0_prepare_34 : decode cX0_prepare 34 = .ok (.iload_n 2, 1) := by decide +kernel
theorem dX0_prepare_35 : decode cX0_prepare 35 = .ok (.invokevirtual 42, 3) := by decide +kernel
theorem dX0_prepare_38 : decode cX0_prepare 38 = .ok (.invokevirtual 46, 3) := by decide +kernel
theorem dX0_prepare_41 : decode cX0_prepare 41 = .ok (.iinc 3 1, 3) := by decide +kernel
theorem dX0_prepare_44 : decode cX0_prepare 44 = .ok (.goto (-37), 3) := by decide +kernel
theorem dX0_prepare_47 : decode cX0_prepare 47 = .ok (.aload_n 0, 1) := by decide +kernel
theorem dX0_prepare_48 : decode cX0_prepare 48 = .ok (.iconst 0, 1) := by decide +kernel
theorem dX0_prepare_49 : decode cX0_prepare 49 = .ok (.putfield 50, 3) := by decide +kernel
theorem dX0_prepare_52 : decode cX0_prepare 52 = .ok (.iconst 0, 1) := by decide +kernel
theorem dX0_prepare_53 : decode cX0_prepare 53 = .ok (.istore_n 3, 1) := by decide +kernel
theorem dX0_prepare_54 : decode cX0_prepare 54 = .ok (.iload_n 3, 1) := by decide +kernel
theorem dX0_prepare_55 : decode cX0_prepare 55 = .ok (.aload_n 1, 1) := by decide +kernel
theorem dX0_prepare_56 : decode cX0_prepare 56 = .ok (.getfield 53, 3) := by decide +kernel
theorem dX0_prepare_59 : decode cX0_prepare 59 = .ok (.getfield 57, 3) := by decide +kernel
theorem dX0_prepare_62 : decode cX0_prepare 62 = .ok (.if_icmp .ge 65, 3) := by decide +kernel
theorem dX0_prepare_65 : decode cX0_prepare 65 = .ok (.aload_n 0, 1) := by decide +kernel
theorem dX0_prepare_66 : decode cX0_prepare 66 = .ok (.getfield 50, 3) := by decide +kernel
theorem dX0_prepare_69 : decode cX0_prepare 69 = .ok (.bipush 60, 2) := by decide +kernel
theorem dX0_prepare_71 : decode cX0_prepare 71 = .ok (.if_icmp .ge 56, 3) := by decide +kernel
theorem dX0_prepare_74 : decode cX0_prepare 74 = .ok (.aload_n 1, 1) := by decide +kernel
theorem dX0_prepare_75 : decode cX0_prepare 75 = .ok (.getfield 53, 3) := by decide +kernel
theorem dX0_prepare_78 : decode cX0_prepare 78 = .ok (.getfield 60, 3) := by decide +kernel
theorem dX0_prepare_81 : decode cX0_prepare 81 = .ok (.iload_n 3, 1) := by decide +kernel
theorem dX0_prepare_82 : decode cX0_prepare 82 = .ok (.iaload, 1) := by decide +kernel
theorem dX0_prepare_83 : decode cX0_prepare 83 = .ok (.iload_n 2, 1) := by decide +kernel
theorem dX0_prepare_84 : decode cX0_prepare 84 = .ok (.if_icmp .ne 37, 3) := by decide +kernel
theorem dX0_prepare_87 : decode cX0_prepare 87 = .ok (.aload_n 0, 1) := by decide +kernel
theorem dX0_prepare_88 : decode cX0_prepare 88 = .ok (.getfield 18, 3) := by decide +kernel
theorem dX0_prepare_91 : decode cX0_prepare 91 = .ok (.aload_n 0, 1) := by decide +kernel
theorem dX0_prepare_92 : decode cX0_prepare 92 = .ok (.getfield 50, 3) := by decide +kernel
theorem dX0_prepare_95 : decode cX0_prepare 95 = .ok (.iload_n 3, 1) := by decide +kernel
theorem dX0_prepare_96 : decode cX0_prepare 96 = .ok (.iastore, 1) := by decide +kernel
theorem dX0_prepare_97 : decode cX0_prepare 97 = .ok (.aload_n 0, 1) := by decide +kernel
theorem dX0_prepare_98 : decode cX0_prepare 98 = .ok (.getfield 21, 3) := by decide +kernel
theorem dX0_prepare_101 : decode cX0_prepare 101 = .ok (.aload_n 0, 1) := by decide +kernel
theorem dX0_prepare_102 : decode cX0_prepare 102 = .ok (.getfield 50, 3) := by decide +kernel
theorem dX0_prepare_105 : decode cX0_prepare 105 = .ok (.aload_n 1, 1) := by decide +kernel
theorem dX0_prepare_106 : decode cX0_prepare 106 = .ok (.iload_n 3, 1) := by decide +kernel
theorem dX0_prepare_107 : decode cX0_prepare 107 = .ok (.invokevirtual 63, 3) := by decide +kernel
theorem dX0_prepare_110 : decode cX0_prepare 110 = .ok (.iastore, 1) := by decide +kernel
theorem dX0_prepare_111 : decode cX0_prepare 111 = .ok (.aload_n 0, 1) := by decide +kernel
theorem dX0_prepare_112 : decode cX0_prepare 112 = .ok (.dup, 1) := by decide +kernel
theorem dX0_prepare_113 : decode cX0_prepare 113 = .ok (.getfield 50, 3) := by decide +kernel
theorem dX0_prepare_116 : decode cX0_prepare 116 = .ok (.iconst 1, 1) := by decide +kernel
theorem dX0_prepare_117 : decode cX0_prepare 117 = .ok (.iadd, 1) := by decide +kernel
theorem dX0_prepare_118 : decode cX0_prepare 118 = .ok (.putfield 50, 3) := by decide +kernel
theorem dX0_prepare_121 : decode cX0_prepare 121 = .ok (.iinc 3 1, 3) := by decide +kernel
theorem dX0_prepare_124 : decode cX0_prepare 124 = .ok (.goto (-70), 3) := by decide +kernel
theorem dX0_prepare_127 : decode cX0_prepare 127 = .ok (.aload_n 0, 1) := by decide +kernel
theorem dX0_prepare_128 : decode cX0_prepare 128 = .ok (.iconst 0, 1) := by decide +kernel
theorem dX0_prepare_129 : decode cX0_prepare 129 = .ok (.putfield 67, 3) := by decide +kernel
theorem dX0_prepare_132 : decode cX0_prepare 132 = .ok (.aload_n 0, 1) := by decide +kernel
theorem dX0_prepare_133 : decode cX0_prepare 133 = .ok (.getfield 67, 3) := by decide +kernel
theorem dX0_prepare_136 : decode cX0_prepare 136 = .ok (.aload_n 0, 1) := by decide +kernel
theorem dX0_prepare_137 : decode cX0_prepare 137 = .ok (.getfield 24, 3) := by decide +kernel
theorem dX0_prepare_140 : decode cX0_prepare 140 = .ok (.if_icmp .ge 48, 3) := by decide +kernel
theorem dX0_prepare_143 : decode cX0_prepare 143 = .ok (.aload_n 0, 1) := by decide +kernel
theorem dX0_prepare_144 : decode cX0_prepare 144 = .ok (.getfield 67, 3) := by decide +kernel
theorem dX0_prepare_147 : decode cX0_prepare 147 = .ok (.aload_n 0, 1) := by decide +kernel
theorem dX0_prepare_148 : decode cX0_prepare 148 = .ok (.getfield 50, 3) := by decide +kernel
theorem dX0_prepare_151 : decode cX0_prepare 151 = .ok (.if_icmp .ge 37, 3) := by decide +kernel
theorem dX0_prepare_154 : decode cX0_prepare 154 = .ok (.aload_n 0, 1) := by decide +kernel
theorem dX0_prepare_155 : decode cX0_prepare 155 = .ok (.getfield 15, 3) := by decide +kernel
theorem dX0_prepare_158 : decode cX0_prepare 158 = .ok (.aload_n 0, 1) := by decide +kernel
theorem dX0_prepare_159 : decode cX0_prepare 159 = .ok (.getfield 67, 3) := by decide +kernel
theorem dX0_prepare_162 : decode cX0_prepare 162 = .ok (.iaload, 1) := by decide +kernel
theorem dX0_prepare_163 : decode cX0_prepare 163 = .ok (.aload_n 0, 1) := by decide +kernel
theorem dX0_prepare_164 : decode cX0_prepare 164 = .ok (.getfield 21, 3) := by decide +kernel
theorem dX0_prepare_167 : decode cX0_prepare 167 = .ok (.aload_n 0, 1) := by decide +kernel
theorem dX0_prepare_168 : decode cX0_prepare 168 = .ok (.getfield 67, 3) := by decide +kernel
theorem dX0_prepare_171 : decode cX0_prepare 171 = .ok (.iaload, 1) := by decide +kernel
theorem dX0_prepare_172 : decode cX0_prepare 172 = .ok (.if_icmp .lt 16, 3) := by decide +kernel
theorem dX0_prepare_175 : decode cX0_prepare 175 = .ok (.aload_n 0, 1) := by decide +kernel
theorem dX0_prepare_176 : decode cX0_prepare 176 = .ok (.dup, 1) := by decide +kernel
theorem dX0_prepare_177 : decode cX0_prepare 177 = .ok (.getfield 67, 3) := by decide +kernel
theorem dX0_prepare_180 : decode cX0_prepare 180 = .ok (.iconst 1, 1) := by decide +kernel
theorem dX0_prepare_181 : decode cX0_prepare 181 = .ok (.iadd, 1) := by decide +kernel
theorem dX0_prepare_182 : decode cX0_prepare 182 = .ok (.putfield 67, 3) := by decide +kernel
theorem dX0_prepare_185 : decode cX0_prepare 185 = .ok (.goto (-53), 3) := by decide +kernel
theorem dX0_prepare_188 : decode cX0_prepare 188 = .ok (.aload_n 0, 1) := by decide +kernel
theorem dX0_prepare_189 : decode cX0_prepare 189 = .ok (.aload_n 0, 1) := by decide +kernel
theorem dX0_prepare_190 : decode cX0_prepare 190 = .ok (.getfield 67, 3) := by decide +kernel
theorem dX0_prepare_193 : decode cX0_prepare 193 = .ok (.ifCond .ne 7, 3) := by decide +kernel
theorem dX0_prepare_196 : decode cX0_prepare 196 = .ok (.iconst 0, 1) := by decide +kernel
theorem dX0_prepare_197 : decode cX0_prepare 197 = .ok (.goto 7, 3) := by decide +kernel
theorem dX0_prepare_200 : decode cX0_prepare 200 = .ok (.aload_n 0, 1) := by decide +kernel
theorem dX0_prepare_201 : decode cX0_prepare 201 = .ok (.invokevirtual 70, 3) := by decide +kernel
theorem dX0_prepare_204 : decode cX0_prepare 204 = .ok (.putfield 74, 3) := by decide +kernel
theorem dX0_prepare_207 : decode cX0_prepare 207 = .ok (.return_, 1) := by decide +kernel
theorem dX0_hold_0 : decode cX0_hold 0 = .ok (.aload_n 0, 1) := by decide +kernel
theorem dX0_hold_1 : decode cX0_hold 1 = .ok (.aload_n 1, 1) := by decide +kernel
theorem dX0_hold_2 : decode cX0_hold 2 = .ok (.iload_n 2, 1) := by decide +kernel
theorem dX0_hold_3 : decode cX0_hold 3 = .ok (.invokevirtual 77, 3) := by decide +kernel
theorem dX0_hold_6 : decode cX0_hold 6 = .ok (.aload_n 0, 1) := by decide +kernel
theorem dX0_hold_7 : decode cX0_hold 7 = .ok (.getfield 67, 3) := by decide +kernel
theorem dX0_hold_10 : decode cX0_hold 10 = .ok (.ifCond .ne 4, 3) := by decide +kernel
theorem dX0_hold_13 : decode cX0_hold 13 = .ok (.return_, 1) := by decide +kernel
theorem dX0_hold_14 : decode cX0_hold 14 = .ok (.iconst 0, 1) := by decide +kernel
theorem dX0_hold_15 : decode cX0_hold 15 = .ok (.istore_n 3, 1) := by decide +kernel
theorem dX0_hold_16 : decode cX0_hold 16 = .ok (.iload_n 3, 1) := by decide +kernel
theorem dX0_hold_17 : decode cX0_hold 17 = .ok (.aload_n 0, 1) := by decide +kernel
theorem dX0_hold_18 : decode cX0_hold 18 = .ok (.getfield 67, 3) := by decide +kernel
theorem dX0_hold_21 : decode cX0_hold 21 = .ok (.if_icmp .ge 27, 3) := by decide +kernel
theorem dX0_hold_24 : decode cX0_hold 24 = .ok (.aload_n 0, 1) := by decide +kernel
theorem dX0_hold_25 : decode cX0_hold 25 = .ok (.aload_n 1, 1) := by decide +kernel
theorem dX0_hold_26 : decode cX0_hold 26 = .ok (.aload_n 0, 1) := by decide +kernel
theorem dX0_hold_27 : decode cX0_hold 27 = .ok (.getfield 9, 3) := by decide +kernel
theorem dX0_hold_30 : decode cX0_hold 30 = .ok (.iload_n 3, 1) := by decide +kernel
theorem dX0_hold_31 : decode cX0_hold 31 = .ok (.iaload, 1) := by decide +kernel
theorem dX0_hold_32 : decode cX0_hold 32 = .ok (.aload_n 0, 1) := by decide +kernel
theorem dX0_hold_33 : decode cX0_hold 33 = .ok (.getfield 18, 3) := by decide +kernel
theorem dX0_hold_36 : decode cX0_hold 36 = .ok (.iload_n 3, 1) := by decide +kernel
theorem dX0_hold_37 : decode cX0_hold 37 = .ok (.iaload, 1) := by decide +kernel
theorem dX0_hold_38 : decode cX0_hold 38 = .ok (.iload_n 2, 1) := by decide +kernel
theorem dX0_hold_39 : decode cX0_hold 39 = .ok (.invokevirtual 81, 3) := by decide +kernel
theorem dX0_hold_42 : decode cX0_hold 42 = .ok (.iinc 3 1, 3) := by decide +kernel
theorem dX0_hold_45 : decode cX0_hold 45 = .ok (.goto (-29), 3) := by decide +kernel
theorem dX0_hold_48 : decode cX0_hold 48 = .ok (.aload_n 1, 1) := by decide +kernel
theorem dX0_hold_49 : decode cX0_hold 49 = .ok (.getfield 53, 3) := by decide +kernel
theorem dX0_hold_52 : decode cX0_hold 52 = .ok (.invokevirtual 85, 3) := by decide +kernel
theorem dX0_hold_55 : decode cX0_hold 55 = .ok (.aload_n 1, 1) := by decide +kernel
theorem dX0_hold_56 : decode cX0_hold 56 = .ok (.getfield 88, 3) := by decide +kernel
theorem dX0_hold_59 : decode cX0_hold 59 = .ok (.iconst 1, 1) := by decide +kernel
theorem dX0_hold_60 : decode cX0_hold 60 = .ok (.iload_n 2, 1) := by decide +kernel
theorem dX0_hold_61 : decode cX0_hold 61 = .ok (.aload_n 0, 1) := by decide +kernel
theorem dX0_hold_62 : decode cX0_hold 62 = .ok (.getfield 74, 3) := by decide +kernel
theorem dX0_hold_65 : decode cX0_hold 65 = .ok (.invokevirtual 92, 3) := by decide +kernel
theorem dX0_hold_68 : decode cX0_hold 68 = .ok (.aload_n 1, 1) := by decide +kernel
theorem dX0_hold_69 : decode cX0_hold 69 = .ok (.getfield 28, 3) := by decide +kernel
theorem dX0_hold_72 : decode cX0_hold 72 = .ok (.astore_n 3, 1) := by decide +kernel
theorem dX0_hold_73 : decode cX0_hold 73 = .ok (.iconst 0, 1) := by decide +kernel
theorem dX0_hold_74 : decode cX0_hold 74 = .ok (.istore 4, 2) := by decide +kernel
theorem dX0_hold_76 : decode cX0_hold 76 = .ok (.iload 4, 2) := by decide +kernel
theorem dX0_hold_78 : decode cX0_hold 78 = .ok (.aload_n 3, 1) := by decide +kernel
theorem dX0_hold_79 : decode cX0_hold 79 = .ok (.getfield 34, 3) := by decide +kernel
theorem dX0_hold_82 : decode cX0_hold 82 = .ok (.if_icmp .ge 26, 3) := by decide +kernel
theorem dX0_hold_85 : decode cX0_hold 85 = .ok (.aload_n 3, 1) := by decide +kernel
theorem dX0_hold_86 : decode cX0_hold 86 = .ok (.getfield 97, 3) := by decide +kernel
theorem dX0_hold_89 : decode cX0_hold 89 = .ok (.iload 4, 2) := by decide +kernel
theorem dX0_hold_91 : decode cX0_hold 91 = .ok (.iaload, 1) := by decide +kernel
theorem dX0_hold_92 : decode cX0_hold 92 = .ok (.ifCond .gt 10, 3) := by decide +kernel
theorem dX0_hold_95 : decode cX0_hold 95 = .ok (.aload_n 1, 1) := by decide +kernel
theorem dX0_hold_96 : decode cX0_hold 96 = .ok (.iload 4, 2) := by decide +kernel
theorem dX0_hold_98 : decode cX0_hold 98 = .ok (.iconst 0, 1) := by decide +kernel
theorem dX0_hold_99 : decode cX0_hold 99 = .ok (.invokevirtual 100, 3) := by decide +kernel
theorem dX0_hold_102 : decode cX0_hold 102 = .ok (.iinc 4 1, 3) := by decide +kernel
theorem dX0_hold_105 : decode cX0_hold 105 = .ok (.goto (-29), 3) := by decide +kernel
theorem dX0_hold_108 : decode cX0_hold 108 = .ok (.aload_n 3, 1) := by decide +kernel
theorem dX0_hold_109 : decode cX0_hold 109 = .ok (.invokevirtual 104, 3) := by decide +kernel
theorem dX0_hold_112 : decode cX0_hold 112 = .ok (.return_, 1) := by decide +kernel
theorem dX0_sell_0 : decode cX0_sell 0 = .ok (.iload_n 3, 1) := by decide +kernel
theorem dX0_sell_1 : decode cX0_sell 1 = .ok (.ifCond .lt 14, 3) := by decide +kernel
theorem dX0_sell_4 : decode cX0_sell 4 = .ok (.iload_n 3, 1) := by decide +kernel
theorem dX0_sell_5 : decode cX0_sell 5 = .ok (.aload_n 1, 1) := by decide +kernel
theorem dX0_sell_6 : decode cX0_sell 6 = .ok (.getfield 53, 3) := by decide +kernel
theorem dX0_sell_9 : decode cX0_sell 9 = .ok (.getfield 57, 3) := by decide +kernel
theorem dX0_sell_12 : decode cX0_sell 12 = .ok (.if_icmp .lt 4, 3) := by decide +kernel
theorem dX0_sell_15 : decode cX0_sell 15 = .ok (.return_, 1) := by decide +kernel
theorem dX0_sell_16 : decode cX0_sell 16 = .ok (.aload_n 1, 1) := by decide +kernel
theorem dX0_sell_17 : decode cX0_sell 17 = .ok (.getfield 28, 3) := by decide +kernel
theorem dX0_sell_20 : decode cX0_sell 20 = .ok (.iload_n 2, 1) := by decide +kernel
theorem dX0_sell_21 : decode cX0_sell 21 = .ok (.aload_n 0, 1) := by decide +kernel
theorem dX0_sell_22 : decode cX0_sell 22 = .ok (.getfield 74, 3) := by decide +kernel
theorem dX0_sell_25 : decode cX0_sell 25 = .ok (.invokevirtual 109, 3) := by decide +kernel
theorem dX0_sell_28 : decode cX0_sell 28 = .ok (.aload_n 1, 1) := by decide +kernel
theorem dX0_sell_29 : decode cX0_sell 29 = .ok (.getfield 112, 3) := by decide +kernel
theorem dX0_sell_32 : decode cX0_sell 32 = .ok (.aload_n 1, 1) := by decide +kernel
theorem dX0_sell_33 : decode cX0_sell 33 = .ok (.getfield 53, 3) := by decide +kernel
theorem dX0_sell_36 : decode cX0_sell 36 = .ok (.getfield 116, 3) := by decide +kernel
theorem dX0_sell_39 : decode cX0_sell 39 = .ok (.iload_n 3, 1) := by decide +kernel
theorem dX0_sell_40 : decode cX0_sell 40 = .ok (.iaload, 1) := by decide +kernel
theorem dX0_sell_41 : decode cX0_sell 41 = .ok (.aload_n 0, 1) := by decide +kernel
theorem dX0_sell_42 : decode cX0_sell 42 = .ok (.getfield 74, 3) := by decide +kernel
theorem dX0_sell_45 : decode cX0_sell 45 = .ok (.invokevirtual 119, 3) := by decide +kernel
theorem dX0_sell_48 : decode cX0_sell 48 = .ok (.aload_n 1, 1) := by decide +kernel
theorem dX0_sell_49 : decode cX0_sell 49 = .ok (.getfield 53, 3) := by decide +kernel
theorem dX0_sell_52 : decode cX0_sell 52 = .ok (.getfield 60, 3) := by decide +kernel
theorem dX0_sell_55 : decode cX0_sell 55 = .ok (.iload_n 3, 1) := by decide +kernel
theorem dX0_sell_56 : decode cX0_sell 56 = .ok (.iconst (-1), 1) := by decide +kernel
theorem dX0_sell_57 : decode cX0_sell 57 = .ok (.iastore, 1) := by decide +kernel
theorem dX0_sell_58 : decode cX0_sell 58 = .ok (.aload_n 1, 1) := by decide +kernel
theorem dX0_sell_59 : decode cX0_sell 59 = .ok (.dup, 1) := by decide +kernel
theorem dX0_sell_60 : decode cX0_sell 60 = .ok (.getfield 124, 3) := by decide +kernel
theorem dX0_sell_63 : decode cX0_sell 63 = .ok (.iconst 1, 1) := by decide +kernel
theorem dX0_sell_64 : decode cX0_sell 64 = .ok (.iadd, 1) := by decide +kernel
theorem dX0_sell_65 : decode cX0_sell 65 = .ok (.putfield 124, 3) := by decide +kernel
theorem dX0_sell_68 : decode cX0_sell 68 = .ok (.aload_n 1, 1) := by decide +kernel
theorem dX0_sell_69 : decode cX0_sell 69 = .ok (.dup, 1) := by decide +kernel
theorem dX0_sell_70 : decode cX0_sell 70 = .ok (.getfield 127, 3) := by decide +kernel
theorem dX0_sell_73 : decode cX0_sell 73 = .ok (.iload 4, 2) := by decide +kernel
theorem dX0_sell_75 : decode cX0_sell 75 = .ok (.ifCond .ne 7, 3) := by decide +kernel
theorem dX0_sell_78 : decode cX0_sell 78 = .ok (.iconst 1, 1) := by decide +kernel
theorem dX0_sell_79 : decode cX0_sell 79 = .ok (.goto 14, 3) := by decide +kernel
theorem dX0_sell_82 : decode cX0_sell 82 = .ok (.iload 4, 2) := by decide +kernel
theorem dX0_sell_84 : decode cX0_sell 84 = .ok (.iconst 1, 1) := by decide +kernel
theorem dX0_sell_85 : decode cX0_sell 85 = .ok (.if_icmp .ne 7, 3) := by decide +kernel
theorem dX0_sell_88 : decode cX0_sell 88 = .ok (.iconst 2, 1) := by decide +kernel
theorem dX0_sell_89 : decode cX0_sell 89 = .ok (.goto 4, 3) := by decide +kernel
theorem dX0_sell_92 : decode cX0_sell 92 = .ok (.iconst 3, 1) := by decide +kernel
theorem dX0_sell_93 : decode cX0_sell 93 = .ok (.iadd, 1) := by decide +kernel
theorem dX0_sell_94 : decode cX0_sell 94 = .ok (.putfield 127, 3) := by decide +kernel
theorem dX0_sell_97 : decode cX0_sell 97 = .ok (.return_, 1) := by decide +kernel
theorem dX0_priceOfTrades_0 : decode cX0_priceOfTrades 0 = .ok (.iconst 1, 1) := by decide +kernel
theorem dX0_priceOfTrades_1 : decode cX0_priceOfTrades 1 = .ok (.istore_n 1, 1) := by decide +kernel
theorem dX0_priceOfTrades_2 : decode cX0_priceOfTrades 2 = .ok (.aload_n 0, 1) := by decide +kernel
theorem dX0_priceOfTrades_3 : decode cX0_priceOfTrades 3 = .ok (.getfield 67, 3) := by decide +kernel
theorem dX0_priceOfTrades_6 : decode cX0_priceOfTrades 6 = .ok (.ifCond .le 41, 3) := by decide +kernel
theorem dX0_priceOfTrades_9 : decode cX0_priceOfTrades 9 = .ok (.aload_n 0, 1) := by decide +kernel
theorem dX0_priceOfTrades_10 : decode cX0_priceOfTrades 10 = .ok (.getfield 67, 3) := by decide +kernel
theorem dX0_priceOfTrades_13 : decode cX0_priceOfTrades 13 = .ok (.aload_n 0, 1) := by decide +kernel
theorem dX0_priceOfTrades_14 : decode cX0_priceOfTrades 14 = .ok (.getfield 50, 3) := by decide +kernel
theorem dX0_priceOfTrades_17 : decode cX0_priceOfTrades 17 = .ok (.if_icmp .gt 30, 3) := by decide +kernel
theorem dX0_priceOfTrades_20 : decode cX0_priceOfTrades 20 = .ok (.aload_n 0, 1) := by decide +kernel
theorem dX0_priceOfTrades_21 : decode cX0_priceOfTrades 21 = .ok (.getfield 21, 3) := by decide +kernel
theorem dX0_priceOfTrades_24 : decode cX0_priceOfTrades 24 = .ok (.aload_n 0, 1) := by decide +kernel
theorem dX0_priceOfTrades_25 : decode cX0_priceOfTrades 25 = .ok (.getfield 67, 3) := by decide +kernel
theorem dX0_priceOfTrades_28 : decode cX0_priceOfTrades 28 = .ok (.iconst 1, 1) := by decide +kernel
theorem dX0_priceOfTrades_29 : decode cX0_priceOfTrades 29 = .ok (.isub, 1) := by decide +kernel
theorem dX0_priceOfTrades_30 : decode cX0_priceOfTrades 30 = .ok (.iaload, 1) := by decide +kernel
theorem dX0_priceOfTrades_31 : decode cX0_priceOfTrades 31 = .ok (.iload_n 1, 1) := by decide +kernel
theorem dX0_priceOfTrades_32 : decode cX0_priceOfTrades 32 = .ok (.if_icmp .le 15, 3) := by decide +kernel
theorem dX0_priceOfTrades_35 : decode cX0_priceOfTrades 35 = .ok (.aload_n 0, 1) := by decide +kernel
theorem dX0_priceOfTrades_36 : decode cX0_priceOfTrades 36 = .ok (.getfield 21, 3) := by decide +kernel
theorem dX0_priceOfTrades_39 : decode cX0_priceOfTrades 39 = .ok (.aload_n 0, 1) := by decide +kernel
theorem dX0_priceOfTrades_40 : decode cX0_priceOfTrades 40 = .ok (.getfield 67, 3) := by decide +kernel
theorem dX0_priceOfTrades_43 : decode cX0_priceOfTrades 43 = .ok (.iconst 1, 1) := by decide +kernel
theorem dX0_priceOfTrades_44 : decode cX0_priceOfTrades 44 = .ok (.isub, 1) := by decide +kernel
theorem dX0_priceOfTrades_45 : decode cX0_priceOfTrades 45 = .ok (.iaload, 1) := by decide +kernel
theorem dX0_priceOfTrades_46 : decode cX0_priceOfTrades 46 = .ok (.istore_n 1, 1) := by decide +kernel
theorem dX0_priceOfTrades_47 : decode cX0_priceOfTrades 47 = .ok (.aload_n 0, 1) := by decide +kernel
theorem dX0_priceOfTrades_48 : decode cX0_priceOfTrades 48 = .ok (.getfield 67, 3) := by decide +kernel
theorem dX0_priceOfTrades_51 : decode cX0_priceOfTrades 51 = .ok (.aload_n 0, 1) := by decide +kernel
theorem dX0_priceOfTrades_52 : decode cX0_priceOfTrades 52 = .ok (.getfield 24, 3) := by decide +kernel
theorem dX0_priceOfTrades_55 : decode cX0_priceOfTrades 55 = .ok (.if_icmp .ge 26, 3) := by decide +kernel
theorem dX0_priceOfTrades_58 : decode cX0_priceOfTrades 58 = .ok (.aload_n 0, 1) := by decide +kernel
theorem dX0_priceOfTrades_59 : decode cX0_priceOfTrades 59 = .ok (.getfield 15, 3) := by decide +kernel
theorem dX0_priceOfTrades_62 : decode cX0_priceOfTrades 62 = .ok (.aload_n 0, 1) := by decide +kernel
theorem dX0_priceOfTrades_63 : decode cX0_priceOfTrades 63 = .ok (.getfield 67, 3) := by decide +kernel
theorem dX0_priceOfTrades_66 : decode cX0_priceOfTrades 66 = .ok (.iaload, 1) := by decide +kernel
theorem dX0_priceOfTrades_67 : decode cX0_priceOfTrades 67 = .ok (.iload_n 1, 1) := by decide +kernel
theorem dX0_priceOfTrades_68 : decode cX0_priceOfTrades 68 = .ok (.if_icmp .le 13, 3) := by decide +kernel
theorem dX0_priceOfTrades_71 : decode cX0_priceOfTrades 71 = .ok (.aload_n 0, 1) := by decide +kernel
theorem dX0_priceOfTrades_72 : decode cX0_priceOfTrades 72 = .ok (.getfield 15, 3) := by decide +kernel
theorem dX0_priceOfTrades_75 : decode cX0_priceOfTrades 75 = .ok (.aload_n 0, 1) := by decide +kernel
theorem dX0_priceOfTrades_76 : decode cX0_priceOfTrades 76 = .ok (.getfield 67, 3) := by decide +kernel
theorem dX0_priceOfTrades_79 : decode cX0_priceOfTrades 79 = .ok (.iaload, 1) := by decide +kernel
theorem dX0_priceOfTrades_80 : decode cX0_priceOfTrades 80 = .ok (.istore_n 1, 1) := by decide +kernel
theorem dX0_priceOfTrades_81 : decode cX0_priceOfTrades 81 = .ok (.iload_n 1, 1) := by decide +kernel
theorem dX0_priceOfTrades_82 : decode cX0_priceOfTrades 82 = .ok (.ireturn, 1) := by decide +kernel
theorem dX0_insertBids_0 : decode cX0_insertBids 0 = .ok (.iconst 0, 1) := by decide +kernel
theorem dX0_insertBids_1 : decode cX0_insertBids 1 = .ok (.istore 4, 2) := by decide +kernel
theorem dX0_insertBids_3 : decode cX0_insertBids 3 = .ok (.iload 4, 2) := by decide +kernel
theorem dX0_insertBids_5 : decode cX0_insertBids 5 = .ok (.iload_n 3, 1) := by decide +kernel
theorem dX0_insertBids_6 : decode cX0_insertBids 6 = .ok (.if_icmp .ge 106, 3) := by decide +kernel
theorem dX0_insertBids_9 : decode cX0_insertBids 9 = .ok (.aload_n 0, 1) := by decide +kernel
theorem dX0_insertBids_10 : decode cX0_insertBids 10 = .ok (.getfield 24, 3) := by decide +kernel
theorem dX0_insertBids_13 : decode cX0_insertBids 13 = .ok (.bipush 90, 2) := by decide +kernel
theorem dX0_insertBids_15 : decode cX0_insertBids 15 = .ok (.if_icmp .ge 97, 3) := by decide +kernel
theorem dX0_insertBids_18 : decode cX0_insertBids 18 = .ok (.aload_n 0, 1) := by decide +kernel
theorem dX0_insertBids_19 : decode cX0_insertBids 19 = .ok (.getfield 24, 3) := by decide +kernel
theorem dX0_insertBids_22 : decode cX0_insertBids 22 = .ok (.istore 5, 2) := by decide +kernel
theorem dX0_insertBids_24 : decode cX0_insertBids 24 = .ok (.iload 5, 2) := by decide +kernel
theorem dX0_insertBids_26 : decode cX0_insertBids 26 = .ok (.ifCond .le 54, 3) := by decide +kernel
theorem dX0_insertBids_29 : decode cX0_insertBids 29 = .ok (.aload_n 0, 1) := by decide +kernel
theorem dX0_insertBids_30 : decode cX0_insertBids 30 = .ok (.getfield 15, 3) := by decide +kernel
theorem dX0_insertBids_33 : decode cX0_insertBids 33 = .ok (.iload 5, 2) := by decide +kernel
theorem dX0_insertBids_35 : decode cX0_insertBids 35 = .ok (.iconst 1, 1) := by decide +kernel
theorem dX0_insertBids_36 : decode cX0_insertBids 36 = .ok (.isub, 1) := by decide +kernel
theorem dX0_insertBids_37 : decode cX0_insertBids 37 = .ok (.iaload, 1) := by decide +kernel
theorem dX0_insertBids_38 : decode cX0_insertBids 38 = .ok (.iload_n 2, 1) := by decide +kernel
theorem dX0_insertBids_39 : decode cX0_insertBids 39 = .ok (.if_icmp .ge 41, 3) := by decide +kernel
theorem dX0_insertBids_42 : decode cX0_insertBids 42 = .ok (.aload_n 0, 1) := by decide +kernel
theorem dX0_insertBids_43 : decode cX0_insertBids 43 = .ok (.getfield 15, 3) := by decide +kernel
theorem dX0_insertBids_46 : decode cX0_insertBids 46 = .ok (.iload 5, 2) := by decide +kernel
theorem dX0_insertBids_48 : decode cX0_insertBids 48 = .ok (.aload_n 0, 1) := by decide +kernel
theorem dX0_insertBids_49 : decode cX0_insertBids 49 = .ok (.getfield 15, 3) := by decide +kernel
theorem dX0_insertBids_52 : decode cX0_insertBids 52 = .ok (.iload 5, 2) := by decide +kernel
theorem dX0_insertBids_54 : decode cX0_insertBids 54 = .ok (.iconst 1, 1) := by decide +kernel
theorem dX0_insertBids_55 : decode cX0_insertBids 55 = .ok (.isub, 1) := by decide +kernel
theorem dX0_insertBids_56 : decode cX0_insertBids 56 = .ok (.iaload, 1) := by decide +kernel
theorem dX0_insertBids_57 : decode cX0_insertBids 57 = .ok (.iastore, 1) := by decide +kernel
theorem dX0_insertBids_58 : decode cX0_insertBids 58 = .ok (.aload_n 0, 1) := by decide +kernel
theorem dX0_insertBids_59 : decode cX0_insertBids 59 = .ok (.getfield 9, 3) := by decide +kernel
theorem dX0_insertBids_62 : decode cX0_insertBids 62 = .ok (.iload 5, 2) := by decide +kernel
theorem dX0_insertBids_64 : decode cX0_insertBids 64 = .ok (.aload_n 0, 1) := by decide +kernel
theorem dX0_insertBids_65 : decode cX0_insertBids 65 = .ok (.getfield 9, 3) := by decide +kernel
theorem dX0_insertBids_68 : decode cX0_insertBids 68 = .ok (.iload 5, 2) := by decide +kernel
theorem dX0_insertBids_70 : decode cX0_insertBids 70 = .ok (.iconst 1, 1) := by decide +kernel
theorem dX0_insertBids_71 : decode cX0_insertBids 71 = .ok (.isub, 1) := by decide +kernel
theorem dX0_insertBids_72 : decode cX0_insertBids 72 = .ok (.iaload, 1) := by decide +kernel
theorem dX0_insertBids_73 : decode cX0_insertBids 73 = .ok (.iastore, 1) := by decide +kernel
theorem dX0_insertBids_74 : decode cX0_insertBids 74 = .ok (.iinc 5 (-1), 3) := by decide +kernel
theorem dX0_insertBids_77 : decode cX0_insertBids 77 = .ok (.goto (-53), 3) := by decide +kernel
theorem dX0_insertBids_80 : decode cX0_insertBids 80 = .ok (.aload_n 0, 1) := by decide +kernel
theorem dX0_insertBids_81 : decode cX0_insertBids 81 = .ok (.getfield 15, 3) := by decide +kernel
theorem dX0_insertBids_84 : decode cX0_insertBids 84 = .ok (.iload 5, 2) := by decide +kernel
theorem dX0_insertBids_86 : decode cX0_insertBids 86 = .ok (.iload_n 2, 1) := by decide +kernel
theorem dX0_insertBids_87 : decode cX0_insertBids 87 = .ok (.iastore, 1) := by decide +kernel
theorem dX0_insertBids_88 : decode cX0_insertBids 88 = .ok (.aload_n 0, 1) := by decide +kernel
theorem dX0_insertBids_89 : decode cX0_insertBids 89 = .ok (.getfield 9, 3) := by decide +kernel
theorem dX0_insertBids_92 : decode cX0_insertBids 92 = .ok (.iload 5, 2) := by decide +kernel
theorem dX0_insertBids_94 : decode cX0_insertBids 94 = .ok (.iload_n 1, 1) := by decide +kernel
theorem dX0_insertBids_95 : decode cX0_insertBids 95 = .ok (.iastore, 1) := by decide +kernel
theorem dX0_insertBids_96 : decode cX0_insertBids 96 = .ok (.aload_n 0, 1) := by decide +kernel
theorem dX0_insertBids_97 : decode cX0_insertBids 97 = .ok (.dup, 1) := by decide +kernel
theorem dX0_insertBids_98 : decode cX0_insertBids 98 = .ok (.getfield 24, 3) := by decide +kernel
theorem dX0_insertBids_101 : decode cX0_insertBids 101 = .ok (.iconst 1, 1) := by decide +kernel
theorem dX0_insertBids_102 : decode cX0_insertBids 102 = .ok (.iadd, 1) := by decide +kernel
theorem dX0_insertBids_103 : decode cX0_insertBids 103 = .ok (.putfield 24, 3) := by decide +kernel
theorem dX0_insertBids_106 : decode cX0_insertBids 106 = .ok (.iinc 4 1, 3) := by decide +kernel
theorem dX0_insertBids_109 : decode cX0_insertBids 109 = .ok (.goto (-106), 3) := by decide +kernel
theorem dX0_insertBids_112 : decode cX0_insertBids 112 = .ok (.return_, 1) := by decide +kernel
theorem dX1_init_0 : decode cX1_init 0 = .ok (.aload_n 0, 1) := by decide +kernel
theorem dX1_init_1 : decode cX1_init 1 = .ok (.invokespecial 3, 3) := by decide +kernel
theorem dX1_init_4 : decode cX1_init 4 = .ok (.aload_n 0, 1) := by decide +kernel
theorem dX1_init_5 : decode cX1_init 5 = .ok (.iconst 4, 1) := by decide +kernel
theorem dX1_init_6 : decode cX1_init 6 = .ok (.newarray .int, 2) := by decide +kernel
theorem dX1_init_8 : decode cX1_init 8 = .ok (.putfield 9, 3) := by decide +kernel
theorem dX1_init_11 : decode cX1_init 11 = .ok (.aload_n 0, 1) := by decide +kernel
theorem dX1_init_12 : decode cX1_init 12 = .ok (.iconst 4, 1) := by decide +kernel
theorem dX1_init_13 : decode cX1_init 13 = .ok (.newarray .int, 2) := by decide +kernel
theorem dX1_init_15 : decode cX1_init 15 = .ok (.putfield 15, 3) := by decide +kernel
theorem dX1_init_18 : decode cX1_init 18 = .ok (.aload_n 0, 1) := by decide +kernel
theorem dX1_init_19 : decode cX1_init 19 = .ok (.iconst 4, 1) := by decide +kernel
theorem dX1_init_20 : decode cX1_init 20 = .ok (.newarray .int, 2) := by decide +kernel
theorem dX1_init_22 : decode cX1_init 22 = .ok (.putfield 18, 3) := by decide +kernel
theorem dX1_init_25 : decode cX1_init 25 = .ok (.aload_n 0, 1) := by decide +kernel
theorem dX1_init_26 : decode cX1_init 26 = .ok (.iconst 4, 1) := by decide +kernel
theorem dX1_init_27 : decode cX1_init 27 = .ok (.newarray .int, 2) := by decide +kernel
theorem dX1_init_29 : decode cX1_init 29 = .ok (.putfield 21, 3) := by decide +kernel
theorem dX1_init_32 : decode cX1_init 32 = .ok (.aload_n 0, 1) := by decide +kernel
theorem dX1_init_33 : decode cX1_init 33 = .ok (.iconst 4, 1) := by decide +kernel
theorem dX1_init_34 : decode cX1_init 34 = .ok (.newarray .int, 2) := by decide +kernel
theorem dX1_init_36 : decode cX1_init 36 = .ok (.putfield 24, 3) := by decide +kernel
theorem dX1_init_39 : decode cX1_init 39 = .ok (.aload_n 0, 1) := by decide +kernel
theorem dX1_init_40 : decode cX1_init 40 = .ok (.iconst 4, 1) := by decide +kernel
theorem dX1_init_41 : decode cX1_init 41 = .ok (.newarray .int, 2) := by decide +kernel
theorem dX1_init_43 : decode cX1_init 43 = .ok (.putfield 27, 3) := by decide +kernel
theorem dX1_init_46 : decode cX1_init 46 = .ok (.return_, 1) := by decide +kernel
theorem dX1_copyFrom_0 : decode cX1_copyFrom 0 = .ok (.aload_n 0, 1) := by decide +kernel
theorem dX1_copyFrom_1 : decode cX1_copyFrom 1 = .ok (.aload_n 1, 1) := by decide +kernel
theorem dX1_copyFrom_2 : decode cX1_copyFrom 2 = .ok (.getfield 30, 3) := by decide +kernel
theorem dX1_copyFrom_5 : decode cX1_copyFrom 5 = .ok (.putfield 30, 3) := by decide +kernel
theorem dX1_copyFrom_8 : decode cX1_copyFrom 8 = .ok (.aload_n 1, 1) := by decide +kernel
theorem dX1_copyFrom_9 : decode cX1_copyFrom 9 = .ok (.getfield 9, 3) := by decide +kernel
theorem dX1_copyFrom_12 : decode cX1_copyFrom 12 = .ok (.aload_n 0, 1) := by decide +kernel
theorem dX1_copyFrom_13 : decode cX1_copyFrom 13 = .ok (.getfield 9, 3) := by decide +kernel
theorem dX1_copyFrom_16 : decode cX1_copyFrom 16 = .ok (.invokestatic 34, 3) := by decide +kernel
theorem dX1_copyFrom_19 : decode cX1_copyFrom 19 = .ok (.aload_n 1, 1) := by decide +kernel
theorem dX1_copyFrom_20 : decode cX1_copyFrom 20 = .ok (.getfield 15, 3) := by decide +kernel
theorem dX1_copyFrom_23 : decode cX1_copyFrom 23 = .ok (.aload_n 0, 1) := by decide +kernel
theorem dX1_copyFrom_24 : decode cX1_copyFrom 24 = .ok (.getfield 15, 3) := by decide +kernel
theorem dX1_copyFrom_27 : decode cX1_copyFrom 27 = .ok (.invokestatic 34, 3) := by decide +kernel
theorem dX1_copyFrom_30 : decode cX1_copyFrom 30 = .ok (.aload_n 1, 1) := by decide +kernel
theorem dX1_copyFrom_31 : decode cX1_copyFrom 31 = .ok (.getfield 18, 3) := by decide +kernel
theorem dX1_copyFrom_34 : decode cX1_copyFrom 34 = .ok (.aload_n 0, 1) := by decide +kernel
theorem dX1_copyFrom_35 : decode cX1_copyFrom 35 = .ok (.getfield 18, 3) := by decide +kernel
theorem dX1_copyFrom_38 : decode cX1_copyFrom 38 = .ok (.invokestatic 34, 3) := by decide +kernel
theorem dX1_copyFrom_41 : decode cX1_copyFrom 41 = .ok (.aload_n 1, 1) := by decide +kernel
theorem dX1_copyFrom_42 : decode cX1_copyFrom 42 = .ok (.getfield 21, 3) := by decide +kernel
theorem dX1_copyFrom_45 : decode cX1_copyFrom 45 = .ok (.aload_n 0, 1) := by decide +kernel
theorem dX1_copyFrom_46 : decode cX1_copyFrom 46 = .ok (.getfield 21, 3) := by decide +kernel
theorem dX1_copyFrom_49 : decode cX1_copyFrom 49 = .ok (.invokestatic 34, 3) := by decide +kernel
theorem dX1_copyFrom_52 : decode cX1_copyFrom 52 = .ok (.aload_n 1, 1) := by decide +kernel
theorem dX1_copyFrom_53 : decode cX1_copyFrom 53 = .ok (.getfield 24, 3) := by decide +kernel
theorem dX1_copyFrom_56 : decode cX1_copyFrom 56 = .ok (.aload_n 0, 1) := by decide +kernel
theorem dX1_copyFrom_57 : decode cX1_copyFrom 57 = .ok (.getfield 24, 3) := by decide +kernel
theorem dX1_copyFrom_60 : decode cX1_copyFrom 60 = .ok (.invokestatic 34, 3) := by decide +kernel
theorem dX1_copyFrom_63 : decode cX1_copyFrom 63 = .ok (.aload_n 1, 1) := by decide +kernel
theorem dX1_copyFrom_64 : decode cX1_copyFrom 64 = .ok (.getfield 27, 3) := by decide +kernel
theorem dX1_copyFrom_67 : decode cX1_copyFrom 67 = .ok (.aload_n 0, 1) := by decide +kernel
theorem dX1_copyFrom_68 : decode cX1_copyFrom 68 = .ok (.getfield 27, 3) := by decide +kernel
theorem dX1_copyFrom_71 : decode cX1_copyFrom 71 = .ok (.invokestatic 34, 3) := by decide +kernel
theorem dX1_copyFrom_74 : decode cX1_copyFrom 74 = .ok (.return_, 1) := by decide +kernel
theorem dX1_add_0 : decode cX1_add 0 = .ok (.aload_n 0, 1) := by decide +kernel
theorem dX1_add_1 : decode cX1_add 1 = .ok (.getfield 30, 3) := by decide +kernel
theorem dX1_add_4 : decode cX1_add 4 = .ok (.iconst 4, 1) := by decide +kernel
theorem dX1_add_5 : decode cX1_add 5 = .ok (.if_icmp .ge 73, 3) := by decide +kernel
theorem dX1_add_8 : decode cX1_add 8 = .ok (.aload_n 0, 1) := by decide +kernel
theorem dX1_add_9 : decode cX1_add 9 = .ok (.getfield 9, 3) := by decide +kernel
theorem dX1_add_12 : decode cX1_add 12 = .ok (.aload_n 0, 1) := by decide +kernel
theorem dX1_add_13 : decode cX1_add 13 = .ok (.getfield 30, 3) := by decide +kernel
theorem dX1_add_16 : decode cX1_add 16 = .ok (.iload_n 1, 1) := by decide +kernel
theorem dX1_add_17 : decode cX1_add 17 = .ok (.iastore, 1) := by decide +kernel
theorem dX1_add_18 : decode cX1_add 18 = .ok (.aload_n 0, 1) := by decide +kernel
theorem dX1_add_19 : decode cX1_add 19 = .ok (.getfield 15, 3) := by decide +kernel
theorem dX1_add_22 : decode cX1_add 22 = .ok (.aload_n 0, 1) := by decide +kernel
theorem dX1_add_23 : decode cX1_add 23 = .ok (.getfield 30, 3) := by decide +kernel
theorem dX1_add_26 : decode cX1_add 26 = .ok (.iload_n 2, 1) := by decide +kernel
theorem dX1_add_27 : decode cX1_add 27 = .ok (.iastore, 1) := by decide +kernel
theorem dX1_add_28 : decode cX1_add 28 = .ok (.aload_n 0, 1) := by decide +kernel
theorem dX1_add_29 : decode cX1_add 29 = .ok (.getfield 18, 3) := by decide +kernel
theorem dX1_add_32 : decode cX1_add 32 = .ok (.aload_n 0, 1) := by decide +kernel
theorem dX1_add_33 : decode cX1_add 33 = .ok (.getfield 30, 3) := by decide +kernel
theorem dX1_add_36 : decode cX1_add 36 = .ok (.iload_n 3, 1) := by decide +kernel
theorem dX1_add_37 : decode cX1_add 37 = .ok (.iastore, 1) := by decide +kernel
theorem dX1_add_38 : decode cX1_add 38 = .ok (.aload_n 0, 1) := by decide +kernel
theorem dX1_add_39 : decode cX1_add 39 = .ok (.getfield 21, 3) := by decide +kernel
theorem dX1_add_42 : decode cX1_add 42 = .ok (.aload_n 0, 1) := by decide +kernel
theorem dX1_add_43 : decode cX1_add 43 = .ok (.getfield 30, 3) := by decide +kernel
theorem dX1_add_46 : decode cX1_add 46 = .ok (.iconst (-1), 1) := by decide +kernel
theorem dX1_add_47 : decode cX1_add 47 = .ok (.iastore, 1) := by decide +kernel
theorem dX1_add_48 : decode cX1_add 48 = .ok (.aload_n 0, 1) := by decide +kernel
theorem dX1_add_49 : decode cX1_add 49 = .ok (.getfield 24, 3) := by decide +kernel
theorem dX1_add_52 : decode cX1_add 52 = .ok (.aload_n 0, 1) := by decide +kernel
theorem dX1_add_53 : decode cX1_add 53 = .ok (.getfield 30, 3) := by decide +kernel
theorem dX1_add_56 : decode cX1_add 56 = .ok (.iconst 0, 1) := by decide +kernel
theorem dX1_add_57 : decode cX1_add 57 = .ok (.iastore, 1) := by decide +kernel
theorem dX1_add_58 : decode cX1_add 58 = .ok (.aload_n 0, 1) := by decide +kernel
theorem dX1_add_59 : decode cX1_add 59 = .ok (.getfield 27, 3) := by decide +kernel
theorem dX1_add_62 : decode cX1_add 62 = .ok (.aload_n 0, 1) := by decide +kernel
theorem dX1_add_63 : decode cX1_add 63 = .ok (.getfield 30, 3) := by decide +kernel
theorem dX1_add_66 : decode cX1_add 66 = .ok (.iconst 0, 1) := by decide +kernel
theorem dX1_add_67 : decode cX1_add 67 = .ok (.iastore, 1) := by decide +kernel
theorem dX1_add_68 : decode cX1_add 68 = .ok (.aload_n 0, 1) := by decide +kernel
theorem dX1_add_69 : decode cX1_add 69 = .ok (.dup, 1) := by decide +kernel
theorem dX1_add_70 : decode cX1_add 70 = .ok (.getfield 30, 3) := by decide +kernel
theorem dX1_add_73 : decode cX1_add 73 = .ok (.iconst 1, 1) := by decide +kernel
theorem dX1_add_74 : decode cX1_add 74 = .ok (.iadd, 1) := by decide +kernel
theorem dX1_add_75 : decode cX1_add 75 = .ok (.putfield 30, 3) := by decide +kernel
theorem dX1_add_78 : decode cX1_add 78 = .ok (.return_, 1) := by decide +kernel
theorem dX1_begin_0 : decode cX1_begin 0 = .ok (.iload_n 1, 1) := by decide +kernel
theorem dX1_begin_1 : decode cX1_begin 1 = .ok (.ifCond .lt 30, 3) := by decide +kernel
theorem dX1_begin_4 : decode cX1_begin 4 = .ok (.iload_n 1, 1) := by decide +kernel
theorem dX1_begin_5 : decode cX1_begin 5 = .ok (.aload_n 0, 1) := by decide +kernel
theorem dX1_begin_6 : decode cX1_begin 6 = .ok (.getfield 30, 3) := by decide +kernel
theorem dX1_begin_9 : decode cX1_begin 9 = .ok (.if_icmp .ge 22, 3) := by decide +kernel
theorem dX1_begin_12 : decode cX1_begin 12 = .ok (.aload_n 0, 1) := by decide +kernel
theorem dX1_begin_13 : decode cX1_begin 13 = .ok (.getfield 21, 3) := by decide +kernel
theorem dX1_begin_16 : decode cX1_begin 16 = .ok (.iload_n 1, 1) := by decide +kernel
theorem dX1_begin_17 : decode cX1_begin 17 = .ok (.iload_n 2, 1) := by decide +kernel
theorem dX1_begin_18 : decode cX1_begin 18 = .ok (.iastore, 1) := by decide +kernel
theorem dX1_begin_19 : decode cX1_begin 19 = .ok (.aload_n 0, 1) := by decide +kernel
theorem dX1_begin_20 : decode cX1_begin 20 = .ok (.getfield 24, 3) := by decide +kernel
theorem dX1_begin_23 : decode cX1_begin 23 = .ok (.iload_n 1, 1) := by decide +kernel
theorem dX1_begin_24 : decode cX1_begin 24 = .ok (.aload_n 0, 1) := by decide +kernel
theorem dX1_begin_25 : decode cX1_begin 25 = .ok (.getfield 18, 3) := by decide +kernel
theorem dX1_begin_28 : decode cX1_begin 28 = .ok (.iload_n 1, 1) := by decide +kernel
theorem dX1_begin_29 : decode cX1_begin 29 = .ok (.iaload, 1) := by decide +kernel
theorem dX1_begin_30 : decode cX1_begin 30 = .ok (.iastore, 1) := by decide +kernel
theorem dX1_begin_31 : decode cX1_begin 31 = .ok (.return_, 1) := by decide +kernel
theorem dX1_rest_0 : decode cX1_rest 0 = .ok (.iload_n 1, 1) := by decide +kernel
theorem dX1_rest_1 : decode cX1_rest 1 = .ok (.ifCond .lt 25, 3) := by decide +kernel
theorem dX1_rest_4 : decode cX1_rest 4 = .ok (.iload_n 1, 1) := by decide +kernel
theorem dX1_rest_5 : decode cX1_rest 5 = .ok (.aload_n 0, 1) := by decide +kernel
theorem dX1_rest_6 : decode cX1_rest 6 = .ok (.getfield 30, 3) := by decide +kernel
theorem dX1_rest_9 : decode cX1_rest 9 = .ok (.if_icmp .ge 17, 3) := by decide +kernel
theorem dX1_rest_12 : decode cX1_rest 12 = .ok (.aload_n 0, 1) := by decide +kernel
theorem dX1_rest_13 : decode cX1_rest 13 = .ok (.getfield 21, 3) := by decide +kernel
theorem dX1_rest_16 : decode cX1_rest 16 = .ok (.iload_n 1, 1) := by decide +kernel
theorem dX1_rest_17 : decode cX1_rest 17 = .ok (.iconst (-1), 1) := by decide +kernel
theorem dX1_rest_18 : decode cX1_rest 18 = .ok (.iastore, 1) := by decide +kernel
theorem dX1_rest_19 : decode cX1_rest 19 = .ok (.aload_n 0, 1) := by decide +kernel
theorem dX1_rest_20 : decode cX1_rest 20 = .ok (.getfield 24, 3) := by decide +kernel
theorem dX1_rest_23 : decode cX1_rest 23 = .ok (.iload_n 1, 1) := by decide +kernel
theorem dX1_rest_24 : decode cX1_rest 24 = .ok (.iconst 0, 1) := by decide +kernel
theorem dX1_rest_25 : decode cX1_rest 25 = .ok (.iastore, 1) := by decide +kernel
theorem dX1_rest_26 : decode cX1_rest 26 = .ok (.return_, 1) := by decide +kernel
theorem dX1_earn_0 : decode cX1_earn 0 = .ok (.iload_n 1, 1) := by decide +kernel
theorem dX1_earn_1 : decode cX1_earn 1 = .ok (.ifCond .lt 21, 3) := by decide +kernel
theorem dX1_earn_4 : decode cX1_earn 4 = .ok (.iload_n 1, 1) := by decide +kernel
theorem dX1_earn_5 : decode cX1_earn 5 = .ok (.aload_n 0, 1) := by decide +kernel
theorem dX1_earn_6 : decode cX1_earn 6 = .ok (.getfield 30, 3) := by decide +kernel
theorem dX1_earn_9 : decode cX1_earn 9 = .ok (.if_icmp .ge 13, 3) := by decide +kernel
theorem dX1_earn_12 : decode cX1_earn 12 = .ok (.aload_n 0, 1) := by decide +kernel
theorem dX1_earn_13 : decode cX1_earn 13 = .ok (.getfield 27, 3) := by decide +kernel
theorem dX1_earn_16 : decode cX1_earn 16 = .ok (.iload_n 1, 1) := by decide +kernel
theorem dX1_earn_17 : decode cX1_earn 17 = .ok (.dup2, 1) := by decide +kernel
theorem dX1_earn_18 : decode cX1_earn 18 = .ok (.iaload, 1) := by decide +kernel
theorem dX1_earn_19 : decode cX1_earn 19 = .ok (.iload_n 2, 1) := by decide +kernel
theorem dX1_earn_20 : decode cX1_earn 20 = .ok (.iadd, 1) := by decide +kernel
theorem dX1_earn_21 : decode cX1_earn 21 = .ok (.iastore, 1) := by decide +kernel
theorem dX1_earn_22 : decode cX1_earn 22 = .ok (.return_, 1) := by decide +kernel
theorem dX1_loavesInOvens_0 : decode cX1_loavesInOvens 0 = .ok (.iconst 0, 1) := by decide +kernel
theorem dX1_loavesInOvens_1 : decode cX1_loavesInOvens 1 = .ok (.istore_n 1, 1) := by decide +kernel
theorem dX1_loavesInOvens_2 : decode cX1_loavesInOvens 2 = .ok (.iconst 0, 1) := by decide +kernel
theorem dX1_loavesInOvens_3 : decode cX1_loavesInOvens 3 = .ok (.istore_n 2, 1) := by decide +kernel
theorem dX1_loavesInOvens_4 : decode cX1_loavesInOvens 4 = .ok (.iload_n 2, 1) := by decide +kernel
theorem dX1_loavesInOvens_5 : decode cX1_loavesInOvens 5 = .ok (.aload_n 0, 1) := by decide +kernel
theorem dX1_loavesInOvens_6 : decode cX1_loavesInOvens 6 = .ok (.getfield 30, 3) := by decide +kernel
theorem dX1_loavesInOvens_9 : decode cX1_loavesInOvens 9 = .ok (.if_icmp .ge 28, 3) := by decide +kernel
theorem dX1_loavesInOvens_12 : decode cX1_loavesInOvens 12 = .ok (.aload_n 0, 1) := by decide +kernel
theorem dX1_loavesInOvens_13 : decode cX1_loavesInOvens 13 = .ok (.getfield 21, 3) := by decide +kernel
theorem dX1_loavesInOvens_16 : decode cX1_loavesInOvens 16 = .ok (.iload_n 2, 1) := by decide +kernel
theorem dX1_loavesInOvens_17 : decode cX1_loavesInOvens 17 = .ok (.iaload, 1) := by decide +kernel
theorem dX1_loavesInOvens_18 : decode cX1_loavesInOvens 18 = .ok (.iconst (-1), 1) := by decide +kernel
theorem dX1_loavesInOvens_19 : decode cX1_loavesInOvens 19 = .ok (.if_icmp .eq 12, 3) := by decide +kernel
theorem dX1_loavesInOvens_22 : decode cX1_loavesInOvens 22 = .ok (.iload_n 1, 1) := by decide +kernel
theorem dX1_loavesInOvens_23 : decode cX1_loavesInOvens 23 = .ok (.aload_n 0, 1) := by decide +kernel
theorem dX1_loavesInOvens_24 : decode cX1_loavesInOvens 24 = .ok (.getfield 15, 3) := by decide +kernel
theorem dX1_loavesInOvens_27 : decode cX1_loavesInOvens 27 = .ok (.iload_n 2, 1) := by decide +kernel
theorem dX1_loavesInOvens_28 : decode cX1_loavesInOvens 28 = .ok (.iaload, 1) := by decide +kernel
theorem dX1_loavesInOvens_29 : decode cX1_loavesInOvens 29 = .ok (.iadd, 1) := by decide +kernel
theorem dX1_loavesInOvens_30 : decode cX1_loavesInOvens 30 = .ok (.istore_n 1, 1) := by decide +kernel
theorem dX1_loavesInOvens_31 : decode cX1_loavesInOvens 31 = .ok (.iinc 2 1, 3) := by decide +kernel
theorem dX1_loavesInOvens_34 : decode cX1_loavesInOvens 34 = .ok (.goto (-30), 3) := by decide +kernel
theorem dX1_loavesInOvens_37 : decode cX1_loavesInOvens 37 = .ok (.iload_n 1, 1) := by decide +kernel
theorem dX1_loavesInOvens_38 : decode cX1_loavesInOvens 38 = .ok (.ireturn, 1) := by decide +kernel
theorem dX2_init_0 : decode cX2_init 0 = .ok (.aload_n 0, 1) := by decide +kernel
theorem dX2_init_1 : decode cX2_init 1 = .ok (.invokespecial 3, 3) := by decide +kernel
theorem dX2_init_4 : decode cX2_init 4 = .ok (.aload_n 0, 1) := by decide +kernel
theorem dX2_init_5 : decode cX2_init 5 = .ok (.bipush 10, 2) := by decide +kernel
theorem dX2_init_7 : decode cX2_init 7 = .ok (.newarray .int, 2) := by decide +kernel
theorem dX2_init_9 : decode cX2_init 9 = .ok (.putfield 9, 3) := by decide +kernel
theorem dX2_init_12 : decode cX2_init 12 = .ok (.aload_n 0, 1) := by decide +kernel
theorem dX2_init_13 : decode cX2_init 13 = .ok (.bipush 10, 2) := by decide +kernel
theorem dX2_init_15 : decode cX2_init 15 = .ok (.newarray .int, 2) := by decide +kernel
theorem dX2_init_17 : decode cX2_init 17 = .ok (.putfield 15, 3) := by decide +kernel
theorem dX2_init_20 : decode cX2_init 20 = .ok (.aload_n 0, 1) := by decide +kernel
theorem dX2_init_21 : decode cX2_init 21 = .ok (.bipush 10, 2) := by decide +kernel
theorem dX2_init_23 : decode cX2_init 23 = .ok (.newarray .int, 2) := by decide +kernel
theorem dX2_init_25 : decode cX2_init 25 = .ok (.putfield 18, 3) := by decide +kernel
theorem dX2_init_28 : decode cX2_init 28 = .ok (.aload_n 0, 1) := by decide +kernel
theorem dX2_init_29 : decode cX2_init 29 = .ok (.bipush 10, 2) := by decide +kernel
theorem dX2_init_31 : decode cX2_init 31 = .ok (.newarray .int, 2) := by decide +kernel
theorem dX2_init_33 : decode cX2_init 33 = .ok (.putfield 21, 3) := by decide +kernel
theorem dX2_init_36 : decode cX2_init 36 = .ok (.aload_n 0, 1) := by decide +kernel
theorem dX2_init_37 : decode cX2_init 37 = .ok (.bipush 10, 2) := by decide +kernel
theorem dX2_init_39 : decode cX2_init 39 = .ok (.newarray .int, 2) := by decide +kernel
theorem dX2_init_41 : decode cX2_init 41 = .ok (.putfield 24, 3) := by decide +kernel
theorem dX2_init_44 : decode cX2_init 44 = .ok (.aload_n 0, 1) := by decide +kernel
theorem dX2_init_45 : decode cX2_init 45 = .ok (.bipush 10, 2) := by decide +kernel
theorem dX2_init_47 : decode cX2_init 47 = .ok (.newarray .int, 2) := by decide +kernel
theorem dX2_init_49 : decode cX2_init 49 = .ok (.putfield 27, 3) := by decide +kernel
theorem dX2_init_52 : decode cX2_init 52 = .ok (.aload_n 0, 1) := by decide +kernel
theorem dX2_init_53 : decode cX2_init 53 = .ok (.bipush 10, 2) := by decide +kernel
theorem dX2_init_55 : decode cX2_init 55 = .ok (.newarray .int, 2) := by decide +kernel
theorem dX2_init_57 : decode cX2_init 57 = .ok (.putfield 30, 3) := by decide +kernel
theorem dX2_init_60 : decode cX2_init 60 = .ok (.return_, 1) := by decide +kernel
theorem dX2_copyFrom_0 : decode cX2_copyFrom 0 = .ok (.aload_n 0, 1) := by decide +kernel
theorem dX2_copyFrom_1 : decode cX2_copyFrom 1 = .ok (.aload_n 1, 1) := by decide +kernel
theorem dX2_copyFrom_2 : decode cX2_copyFrom 2 = .ok (.getfield 33, 3) := by decide +kernel
theorem dX2_copyFrom_5 : decode cX2_copyFrom 5 = .ok (.putfield 33, 3) := by decide +kernel
theorem dX2_copyFrom_8 : decode cX2_copyFrom 8 = .ok (.aload_n 0, 1) := by decide +kernel
theorem dX2_copyFrom_9 : decode cX2_copyFrom 9 = .ok (.aload_n 1, 1) := by decide +kernel
theorem dX2_copyFrom_10 : decode cX2_copyFrom 10 = .ok (.getfield 37, 3) := by decide +kernel
theorem dX2_copyFrom_13 : decode cX2_copyFrom 13 = .ok (.putfield 37, 3) := by decide +kernel
theorem dX2_copyFrom_16 : decode cX2_copyFrom 16 = .ok (.aload_n 1, 1) := by decide +kernel
theorem dX2_copyFrom_17 : decode cX2_copyFrom 17 = .ok (.getfield 9, 3) := by decide +kernel
theorem dX2_copyFrom_20 : decode cX2_copyFrom 20 = .ok (.aload_n 0, 1) := by decide +kernel
theorem dX2_copyFrom_21 : decode cX2_copyFrom 21 = .ok (.getfield 9, 3) := by decide +kernel
theorem dX2_copyFrom_24 : decode cX2_copyFrom 24 = .ok (.invokestatic 40, 3) := by decide +kernel
theorem dX2_copyFrom_27 : decode cX2_copyFrom 27 = .ok (.aload_n 1, 1) := by decide +kernel
theorem dX2_copyFrom_28 : decode cX2_copyFrom 28 = .ok (.getfield 15, 3) := by decide +kernel
theorem dX2_copyFrom_31 : decode cX2_copyFrom 31 = .ok (.aload_n 0, 1) := by decide +kernel
theorem dX2_copyFrom_32 : decode cX2_copyFrom 32 = .ok (.getfield 15, 3) := by decide +kernel
theorem dX2_copyFrom_35 : decode cX2_copyFrom 35 = .ok (.invokestatic 40, 3) := by decide +kernel
theorem dX2_copyFrom_38 : decode cX2_copyFrom 38 = .ok (.aload_n 1, 1) := by decide +kernel
theorem dX2_copyFrom_39 : decode cX2_copyFrom 39 = .ok (.getfield 18, 3) := by decide +kernel
theorem dX2_copyFrom_42 : decode cX2_copyFrom 42 = .ok (.aload_n 0, 1) := by decide +kernel
theorem dX2_copyFrom_43 : decode cX2_copyFrom 43 = .ok (.getfield 18, 3) := by decide +kernel
theorem dX2_copyFrom_46 : decode cX2_copyFrom 46 = .ok (.invokestatic 40, 3) := by decide +kernel
theorem dX2_copyFrom_49 : decode cX2_copyFrom 49 = .ok (.aload_n 1, 1) := by decide +kernel
theorem dX2_copyFrom_50 : decode cX2_copyFrom 50 = .ok (.getfield 21, 3) := by decide +kernel
theorem dX2_copyFrom_53 : decode cX2_copyFrom 53 = .ok (.aload_n 0, 1) := by decide +kernel
theorem dX2_copyFrom_54 : decode cX2_copyFrom 54 = .ok (.getfield 21, 3) := by decide +kernel
theorem dX2_copyFrom_57 : decode cX2_copyFrom 57 = .ok (.invokestatic 40, 3) := by decide +kernel
theorem dX2_copyFrom_60 : decode cX2_copyFrom 60 = .ok (.aload_n 1, 1) := by decide +kernel
theorem dX2_copyFrom_61 : decode cX2_copyFrom 61 = .ok (.getfield 24, 3) := by decide +kernel
theorem dX2_copyFrom_64 : decode cX2_copyFrom 64 = .ok (.aload_n 0, 1) := by decide +kernel
theorem dX2_copyFrom_65 : decode cX2_copyFrom 65 = .ok (.getfield 24, 3) := by decide +kernel
theorem dX2_copyFrom_68 : decode cX2_copyFrom 68 = .ok (.invokestatic 40, 3) := by decide +kernel
theorem dX2_copyFrom_71 : decode cX2_copyFrom 71 = .ok (.aload_n 1, 1) := by decide +kernel
theorem dX2_copyFrom_72 : decode cX2_copyFrom 72 = .ok (.getfield 27, 3) := by decide +kernel
theorem dX2_copyFrom_75 : decode cX2_copyFrom 75 = .ok (.aload_n 0, 1) := by decide +kernel
theorem dX2_copyFrom_76 : decode cX2_copyFrom 76 = .ok (.getfield 27, 3) := by decide +kernel
theorem dX2_copyFrom_79 : decode cX2_copyFrom 79 = .ok (.invokestatic 40, 3) := by decide +kernel
theorem dX2_copyFrom_82 : decode cX2_copyFrom 82 = .ok (.aload_n 1, 1) := by decide +kernel
theorem dX2_copyFrom_83 : decode cX2_copyFrom 83 = .ok (.getfield 30, 3) := by decide +kernel
theorem dX2_copyFrom_86 : decode cX2_copyFrom 86 = .ok (.aload_n 0, 1) := by decide +kernel
theorem dX2_copyFrom_87 : decode cX2_copyFrom 87 = .ok (.getfield 30, 3) := by decide +kernel
theorem dX2_copyFrom_90 : decode cX2_copyFrom 90 = .ok (.invokestatic 40, 3) := by decide +kernel
theorem dX2_copyFrom_93 : decode cX2_copyFrom 93 = .ok (.return_, 1) := by decide +kernel
theorem dX2_add_0 : decode cX2_add 0 = .ok (.aload_n 0, 1) := by decide +kernel
theorem dX2_add_1 : decode cX2_add 1 = .ok (.getfield 33, 3) := by decide +kernel
theorem dX2_add_4 : decode cX2_add 4 = .ok (.bipush 10, 2) := by decide +kernel
theorem dX2_add_6 : decode cX2_add 6 = .ok (.if_icmp .lt 5, 3) := by decide +kernel
theorem dX2_add_9 : decode cX2_add 9 = .ok (.iconst (-1), 1) := by decide +kernel
theorem dX2_add_10 : decode cX2_add 10 = .ok (.ireturn, 1) := by decide +kernel
theorem dX2_add_11 : decode cX2_add 11 = .ok (.aload_n 0, 1) := by decide +kernel
theorem dX2_add_12 : decode cX2_add 12 = .ok (.getfield 33, 3) := by decide +kernel
theorem dX2_add_15 : decode cX2_add 15 = .ok (.istore 7, 2) := by decide +kernel
theorem dX2_add_17 : decode cX2_add 17 = .ok (.aload_n 0, 1) := by decide +kernel
theorem dX2_add_18 : decode cX2_add 18 = .ok (.getfield 9, 3) := by decide +kernel
theorem dX2_add_21 : decode cX2_add 21 = .ok (.iload 7, 2) := by decide +kernel
theorem dX2_add_23 : decode cX2_add 23 = .ok (.iload_n 1, 1) := by decide +kernel
theorem dX2_add_24 : decode cX2_add 24 = .ok (.iastore, 1) := by decide +kernel
theorem dX2_add_25 : decode cX2_add 25 = .ok (.aload_n 0, 1) := by decide +kernel
theorem dX2_add_26 : decode cX2_add 26 = .ok (.getfield 15, 3) := by decide +kernel
theorem dX2_add_29 : decode cX2_add 29 = .ok (.iload 7, 2) := by decide +kernel
theorem dX2_add_31 : decode cX2_add 31 = .ok (.aload_n 0, 1) := by decide +kernel
theorem dX2_add_32 : decode cX2_add 32 = .ok (.getfield 37, 3) := by decide +kernel
theorem dX2_add_35 : decode cX2_add 35 = .ok (.iastore, 1) := by decide +kernel
theorem dX2_add_36 : decode cX2_add 36 = .ok (.aload_n 0, 1) := by decide +kernel
theorem dX2_add_37 : decode cX2_add 37 = .ok (.getfield 18, 3) := by decide +kernel
theorem dX2_add_40 : decode cX2_add 40 = .ok (.iload 7, 2) := by decide +kernel
theorem dX2_add_42 : decode cX2_add 42 = .ok (.iload_n 2, 1) := by decide +kernel
theorem dX2_add_43 : decode cX2_add 43 = .ok (.iastore, 1) := by decide +kernel
theorem dX2_add_44 : decode cX2_add 44 = .ok (.aload_n 0, 1) := by decide +kernel
theorem dX2_add_45 : decode cX2_add 45 = .ok (.getfield 21, 3) := by decide +kernel
theorem dX2_add_48 : decode cX2_add 48 = .ok (.iload 7, 2) := by decide +kernel
theorem dX2_add_50 : decode cX2_add 50 = .ok (.iload_n 3, 1) := by decide +kernel
theorem dX2_add_51 : decode cX2_add 51 = .ok (.iastore, 1) := by decide +kernel
theorem dX2_add_52 : decode cX2_add 52 = .ok (.aload_n 0, 1) := by decide +kernel
theorem dX2_add_53 : decode cX2_add 53 = .ok (.getfield 24, 3) := by decide +kernel
theorem dX2_add_56 : decode cX2_add 56 = .ok (.iload 7, 2) := by decide +kernel
theorem dX2_add_58 : decode cX2_add 58 = .ok (.iload 4, 2) := by decide +kernel
theorem dX2_add_60 : decode cX2_add 60 = .ok (.iastore, 1) := by decide +kernel
theorem dX2_add_61 : decode cX2_add 61 = .ok (.aload_n 0, 1) := by decide +kernel
theorem dX2_add_62 : decode cX2_add 62 = .ok (.getfield 27, 3) := by decide +kernel
theorem dX2_add_65 : decode cX2_add 65 = .ok (.iload 7, 2) := by decide +kernel
theorem dX2_add_67 : decode cX2_add 67 = .ok (.iload 5, 2) := by decide +kernel
theorem dX2_add_69 : decode cX2_add 69 = .ok (.iastore, 1) := by decide +kernel
theorem dX2_add_70 : decode cX2_add 70 = .ok (.aload_n 0, 1) := by decide +kernel
theorem dX2_add_71 : decode cX2_add 71 = .ok (.getfield 30, 3) := by decide +kernel
theorem dX2_add_74 : decode cX2_add 74 = .ok (.iload 7, 2) := by decide +kernel
theorem dX2_add_76 : decode cX2_add 76 = .ok (.iload 6, 2) := by decide +kernel
theorem dX2_add_78 : decode cX2_add 78 = .ok (.iastore, 1) := by decide +kernel
theorem dX2_add_79 : decode cX2_add 79 = .ok (.aload_n 0, 1) := by decide +kernel
theorem dX2_add_80 : decode cX2_add 80 = .ok (.dup, 1) := by decide +kernel
theorem dX2_add_81 : decode cX2_add 81 = .ok (.getfield 33, 3) := by decide +kernel
theorem dX2_add_84 : decode cX2_add 84 = .ok (.iconst 1, 1) := by decide +kernel
theorem dX2_add_85 : decode cX2_add 85 = .ok (.iadd, 1) := by decide +kernel
theorem dX2_add_86 : decode cX2_add 86 = .ok (.putfield 33, 3) := by decide +kernel
theorem dX2_add_89 : decode cX2_add 89 = .ok (.aload_n 0, 1) := by decide +kernel
theorem dX2_add_90 : decode cX2_add 90 = .ok (.dup, 1) := by decide +kernel
theorem dX2_add_91 : decode cX2_add 91 = .ok (.getfield 37, 3) := by decide +kernel
theorem dX2_add_94 : decode cX2_add 94 = .ok (.iconst 1, 1) := by decide +kernel
theorem dX2_add_95 : decode cX2_add 95 = .ok (.iadd, 1) := by decide +kernel
theorem dX2_add_96 : decode cX2_add 96 = .ok (.putfield 37, 3) := by decide +kernel
theorem dX2_add_99 : decode cX2_add 99 = .ok (.aload_n 0, 1) := by decide +kernel
theorem dX2_add_100 : decode cX2_add 100 = .ok (.getfield 15, 3) := by decide +kernel
theorem dX2_add_103 : decode cX2_add 103 = .ok (.iload 7, 2) := by decide +kernel
theorem dX2_add_105 : decode cX2_add 105 = .ok (.iaload, 1) := by decide +kernel
theorem dX2_add_106 : decode cX2_add 106 = .ok (.ireturn, 1) := by decide +kernel
theorem dX2_pay_0 : decode cX2_pay 0 = .ok (.iload_n 1, 1) := by decide +kernel
theorem dX2_pay_1 : decode cX2_pay 1 = .ok (.ifCond .lt 31, 3) := by decide +kernel
theorem dX2_pay_4 : decode cX2_pay 4 = .ok (.iload_n 1, 1) := by decide +kernel
theorem dX2_pay_5 : decode cX2_pay 5 = .ok (.aload_n 0, 1) := by decide +kernel
theorem dX2_pay_6 : decode cX2_pay 6 = .ok (.getfield 33, 3) := by decide +kernel
theorem dX2_pay_9 : decode cX2_pay 9 = .ok (.if_icmp .ge 23, 3) := by decide +kernel
theorem dX2_pay_12 : decode cX2_pay 12 = .ok (.aload_n 0, 1) := by decide +kernel
theorem dX2_pay_13 : decode cX2_pay 13 = .ok (.getfield 27, 3) := by decide +kernel
theorem dX2_pay_16 : decode cX2_pay 16 = .ok (.iload_n 1, 1) := by decide +kernel
theorem dX2_pay_17 : decode cX2_pay 17 = .ok (.dup2, 1) := by decide +kernel
theorem dX2_pay_18 : decode cX2_pay 18 = .ok (.iaload, 1) := by decide +kernel
theorem dX2_pay_19 : decode cX2_pay 19 = .ok (.iload_n 2, 1) := by decide +kernel
theorem dX2_pay_20 : decode cX2_pay 20 = .ok (.isub, 1) := by decide +kernel
theorem dX2_pay_21 : decode cX2_pay 21 = .ok (.iastore, 1) := by decide +kernel
theorem dX2_pay_22 : decode cX2_pay 22 = .ok (.aload_n 0, 1) := by decide +kernel
theorem dX2_pay_23 : decode cX2_pay 23 = .ok (.getfield 21, 3) := by decide +kernel
theorem dX2_pay_26 : decode cX2_pay 26 = .ok (.iload_n 1, 1) := by decide +kernel
theorem dX2_pay_27 : decode cX2_pay 27 = .ok (.dup2, 1) := by decide +kernel
theorem dX2_pay_28 : decode cX2_pay 28 = .ok (.iaload, 1) := by decide +kernel
theorem dX2_pay_29 : decode cX2_pay 29 = .ok (.iconst 1, 1) := by decide +kernel
theorem dX2_pay_30 : decode cX2_pay 30 = .ok (.isub, 1) := by decide +kernel
theorem dX2_pay_31 : decode cX2_pay 31 = .ok (.iastore, 1) := by decide +kernel
theorem dX2_pay_32 : decode cX2_pay 32 = .ok (.return_, 1) := by decide +kernel
theorem dX2_bidsOf_0 : decode cX2_bidsOf 0 = .ok (.iload_n 1, 1) := by decide +kernel
theorem dX2_bidsOf_1 : decode cX2_bidsOf 1 = .ok (.ifCond .lt 30, 3) := by decide +kernel
theorem dX2_bidsOf_4 : decode cX2_bidsOf 4 = .ok (.iload_n 1, 1) := by decide +kernel
theorem dX2_bidsOf_5 : decode cX2_bidsOf 5 = .ok (.aload_n 0, 1) := by decide +kernel
theorem dX2_bidsOf_6 : decode cX2_bidsOf 6 = .ok (.getfield 33, 3) := by decide +kernel
theorem dX2_bidsOf_9 : decode cX2_bidsOf 9 = .ok (.if_icmp .ge 22, 3) := by decide +kernel
theorem dX2_bidsOf_12 : decode cX2_bidsOf 12 = .ok (.aload_n 0, 1) := by decide +kernel
theorem dX2_bidsOf_13 : decode cX2_bidsOf 13 = .ok (.getfield 18, 3) := by decide +kernel
theorem dX2_bidsOf_16 : decode cX2_bidsOf 16 = .ok (.iload_n 1, 1) := by decide +kernel
theorem dX2_bidsOf_17 : decode cX2_bidsOf 17 = .ok (.iaload, 1) := by decide +kernel
theorem dX2_bidsOf_18 : decode cX2_bidsOf 18 = .ok (.iload_n 2, 1) := by decide +kernel
theorem dX2_bidsOf_19 : decode cX2_bidsOf 19 = .ok (.if_icmp .ne 12, 3) := by decide +kernel
theorem dX2_bidsOf_22 : decode cX2_bidsOf 22 = .ok (.aload_n 0, 1) := by decide +kernel
theorem dX2_bidsOf_23 : decode cX2_bidsOf 23 = .ok (.getfield 24, 3) := by decide +kernel
theorem dX2_bidsOf_26 : decode cX2_bidsOf 26 = .ok (.iload_n 1, 1) := by decide +kernel
theorem dX2_bidsOf_27 : decode cX2_bidsOf 27 = .ok (.iaload, 1) := by decide +kernel
theorem dX2_bidsOf_28 : decode cX2_bidsOf 28 = .ok (.ifCond .gt 5, 3) := by decide +kernel
theorem dX2_bidsOf_31 : decode cX2_bidsOf 31 = .ok (.iconst 0, 1) := by decide +kernel
theorem dX2_bidsOf_32 : decode cX2_bidsOf 32 = .ok (.ireturn, 1) := by decide +kernel
theorem dX2_bidsOf_33 : decode cX2_bidsOf 33 = .ok (.aload_n 0, 1) := by decide +kernel
theorem dX2_bidsOf_34 : decode cX2_bidsOf 34 = .ok (.getfield 27, 3) := by decide +kernel
theorem dX2_bidsOf_37 : decode cX2_bidsOf 37 = .ok (.iload_n 1, 1) := by decide +kernel
theorem dX2_bidsOf_38 : decode cX2_bidsOf 38 = .ok (.iaload, 1) := by decide +kernel
theorem dX2_bidsOf_39 : decode cX2_bidsOf 39 = .ok (.aload_n 0, 1) := by decide +kernel
theorem dX2_bidsOf_40 : decode cX2_bidsOf 40 = .ok (.getfield 24, 3) := by decide +kernel
theorem dX2_bidsOf_43 : decode cX2_bidsOf 43 = .ok (.iload_n 1, 1) := by decide +kernel
theorem dX2_bidsOf_44 : decode cX2_bidsOf 44 = .ok (.iaload, 1) := by decide +kernel
theorem dX2_bidsOf_45 : decode cX2_bidsOf 45 = .ok (.idiv, 1) := by decide +kernel
theorem dX2_bidsOf_46 : decode cX2_bidsOf 46 = .ok (.istore_n 3, 1) := by decide +kernel
theorem dX2_bidsOf_47 : decode cX2_bidsOf 47 = .ok (.iload_n 3, 1) := by decide +kernel
theorem dX2_bidsOf_48 : decode cX2_bidsOf 48 = .ok (.aload_n 0, 1) := by decide +kernel
theorem dX2_bidsOf_49 : decode cX2_bidsOf 49 = .ok (.getfield 21, 3) := by decide +kernel
theorem dX2_bidsOf_52 : decode cX2_bidsOf 52 = .ok (.iload_n 1, 1) := by decide +kernel
theorem dX2_bidsOf_53 : decode cX2_bidsOf 53 = .ok (.iaload, 1) := by decide +kernel
theorem dX2_bidsOf_54 : decode cX2_bidsOf 54 = .ok (.if_icmp .ge 7, 3) := by decide +kernel
theorem dX2_bidsOf_57 : decode cX2_bidsOf 57 = .ok (.iload_n 3, 1) := by decide +kernel
theorem dX2_bidsOf_58 : decode cX2_bidsOf 58 = .ok (.goto 9, 3) := by decide +kernel
theorem dX2_bidsOf_61 : decode cX2_bidsOf 61 = .ok (.aload_n 0, 1) := by decide +kernel
theorem dX2_bidsOf_62 : decode cX2_bidsOf 62 = .ok (.getfield 21, 3) := by decide +kernel
theorem dX2_bidsOf_65 : decode cX2_bidsOf 65 = .ok (.iload_n 1, 1) := by decide +kernel
theorem dX2_bidsOf_66 : decode cX2_bidsOf 66 = .ok (.iaload, 1) := by decide +kernel
theorem dX2_bidsOf_67 : decode cX2_bidsOf 67 = .ok (.ireturn, 1) := by decide +kernel
theorem dX2_closeGaps_0 : decode cX2_closeGaps 0 = .ok (.iconst 0, 1) := by decide +kernel
theorem dX2_closeGaps_1 : decode cX2_closeGaps 1 = .ok (.istore_n 1, 1) := by decide +kernel
theorem dX2_closeGaps_2 : decode cX2_closeGaps 2 = .ok (.iconst 0, 1) := by decide +kernel
theorem dX2_closeGaps_3 : decode cX2_closeGaps 3 = .ok (.istore_n 2, 1) := by decide +kernel
theorem dX2_closeGaps_4 : decode cX2_closeGaps 4 = .ok (.iload_n 2, 1) := by decide +kernel
theorem dX2_closeGaps_5 : decode cX2_closeGaps 5 = .ok (.aload_n 0, 1) := by decide +kernel
theorem dX2_closeGaps_6 : decode cX2_closeGaps 6 = .ok (.getfield 33, 3) := by decide +kernel
theorem dX2_closeGaps_9 : decode cX2_closeGaps 9 = .ok (.if_icmp .ge 28, 3) := by decide +kernel
theorem dX2_closeGaps_12 : decode cX2_closeGaps 12 = .ok (.aload_n 0, 1) := by decide +kernel
theorem dX2_closeGaps_13 : decode cX2_closeGaps 13 = .ok (.getfield 15, 3) := by decide +kernel
theorem dX2_closeGaps_16 : decode cX2_closeGaps 16 = .ok (.iload_n 2, 1) := by decide +kernel
theorem dX2_closeGaps_17 : decode cX2_closeGaps 17 = .ok (.iaload, 1) := by decide +kernel
theorem dX2_closeGaps_18 : decode cX2_closeGaps 18 = .ok (.iconst (-1), 1) := by decide +kernel
theorem dX2_closeGaps_19 : decode cX2_closeGaps 19 = .ok (.if_icmp .eq 12, 3) := by decide +kernel
theorem dX2_closeGaps_22 : decode cX2_closeGaps 22 = .ok (.aload_n 0, 1) := by decide +kernel
theorem dX2_closeGaps_23 : decode cX2_closeGaps 23 = .ok (.iload_n 2, 1) := by decide +kernel
theorem dX2_closeGaps_24 : decode cX2_closeGaps 24 = .ok (.iload_n 1, 1) := by decide +kernel
theorem dX2_closeGaps_25 : decode cX2_closeGaps 25 = .ok (.invokevirtual 44, 3) := by decide +kernel
theorem dX2_closeGaps_28 : decode cX2_closeGaps 28 = .ok (.iinc 1 1, 3) := by decide +kernel
theorem dX2_closeGaps_31 : decode cX2_closeGaps 31 = .ok (.iinc 2 1, 3) := by decide +kernel
theorem dX2_closeGaps_34 : decode cX2_closeGaps 34 = .ok (.goto (-30), 3) := by decide +kernel
theorem dX2_closeGaps_37 : decode cX2_closeGaps 37 = .ok (.aload_n 0, 1) := by decide +kernel
theorem dX2_closeGaps_38 : decode cX2_closeGaps 38 = .ok (.iload_n 1, 1) := by decide +kernel
theorem dX2_closeGaps_39 : decode cX2_closeGaps 39 = .ok (.putfield 33, 3) := by decide +kernel
theorem dX2_closeGaps_42 : decode cX2_closeGaps 42 = .ok (.return_, 1) := by decide +kernel
theorem dX2_move_0 : decode cX2_move 0 = .ok (.iload_n 1, 1) := by decide +kernel
theorem dX2_move_1 : decode cX2_move 1 = .ok (.ifCond .lt 19, 3) := by decide +kernel
theorem dX2_move_4 : decode cX2_move 4 = .ok (.iload_n 1, 1) := by decide +kernel
theorem dX2_move_5 : decode cX2_move 5 = .ok (.bipush 10, 2) := by decide +kernel
theorem dX2_move_7 : decode cX2_move 7 = .ok (.if_icmp .ge 13, 3) := by decide +kernel
theorem dX2_move_10 : decode cX2_move 10 = .ok (.iload_n 2, 1) := by decide +kernel
theorem dX2_move_11 : decode cX2_move 11 = .ok (.ifCond .lt 9, 3) := by decide +kernel
theorem dX2_move_14 : decode cX2_move 14 = .ok (.iload_n 2, 1) := by decide +kernel
theorem dX2_move_15 : decode cX2_move 15 = .ok (.bipush 10, 2) := by decide +kernel
theorem dX2_move_17 : decode cX2_move 17 = .ok (.if_icmp .lt 4, 3) := by decide +kernel
theorem dX2_move_20 : decode cX2_move 20 = .ok (.return_, 1) := by decide +kernel
theorem dX2_move_21 : decode cX2_move 21 = .ok (.aload_n 0, 1) := by decide +kernel
theorem dX2_move_22 : decode cX2_move 22 = .ok (.getfield 9, 3) := by decide +kernel
theorem dX2_move_25 : decode cX2_move 25 = .ok (.iload_n 2, 1) := by decide +kernel
theorem dX2_move_26 : decode cX2_move 26 = .ok (.aload_n 0, 1) := by decide +kernel
theorem dX2_move_27 : decode cX2_move 27 = .ok (.getfield 9, 3) := by decide +kernel
theorem dX2_move_30 : decode cX2_move 30 = .ok (.iload_n 1, 1) := by decide +kernel
theorem dX2_move_31 : decode cX2_move 31 = .ok (.iaload, 1) := by decide +kernel
theorem dX2_move_32 : decode cX2_move 32 = .ok (.iastore, 1) := by decide +kernel
theorem dX2_move_33 : decode cX2_move 33 = .ok (.aload_n 0, 1) := by decide +kernel
theorem dX2_move_34 : decode cX2_move 34 = .ok (.getfield 15, 3) := by decide +kernel
theorem dX2_move_37 : decode cX2_move 37 = .ok (.iload_n 2, 1) := by decide +kernel
theorem dX2_move_38 : decode cX2_move 38 = .ok (.aload_n 0, 1) := by decide +kernel
theorem dX2_move_39 : decode cX2_move 39 = .ok (.getfield 15, 3) := by decide +kernel
theorem dX2_move_42 : decode cX2_move 42 = .ok (.iload_n 1, 1) := by decide +kernel
theorem dX2_move_43 : decode cX2_move 43 = .ok (.iaload, 1) := by decide +kernel
theorem dX2_move_44 : decode cX2_move 44 = .ok (.iastore, 1) := by decide +kernel
theorem dX2_move_45 : decode cX2_move 45 = .ok (.aload_n 0, 1) := by decide +kernel
theorem dX2_move_46 : decode cX2_move 46 = .ok (.getfield 18, 3) := by decide +kernel
theorem dX2_move_49 : decode cX2_move 49 = .ok (.iload_n 2, 1) := by decide +kernel
theorem dX2_move_50 : decode cX2_move 50 = .ok (.aload_n 0, 1) := by decide +kernel
theorem dX2_move_51 : decode cX2_move 51 = .ok (.getfield 18, 3) := by decide +kernel
theorem dX2_move_54 : decode cX2_move 54 = .ok (.iload_n 1, 1) := by decide +kernel
theorem dX2_move_55 : decode cX2_move 55 = .ok (.iaload, 1) := by decide +kernel
theorem dX2_move_56 : decode cX2_move 56 = .ok (.iastore, 1) := by decide +kernel
theorem dX2_move_57 : decode cX2_move 57 = .ok (.aload_n 0, 1) := by decide +kernel
theorem dX2_move_58 : decode cX2_move 58 = .ok (.getfield 21, 3) := by decide +kernel
theorem dX2_move_61 : decode cX2_move 61 = .ok (.iload_n 2, 1) := by decide +kernel
theorem dX2_move_62 : decode cX2_move 62 = .ok (.aload_n 0, 1) := by decide +kernel
theorem dX2_move_63 : decode cX2_move 63 = .ok (.getfield 21, 3) := by decide +kernel
theorem dX2_move_66 : decode cX2_move 66 = .ok (.iload_n 1, 1) := by decide +kernel
theorem dX2_move_67 : decode cX2_move 67 = .ok (.iaload, 1) := by decide +kernel
theorem dX2_move_68 : decode cX2_move 68 = .ok (.iastore, 1) := by decide +kernel
theorem dX2_move_69 : decode cX2_move 69 = .ok (.aload_n 0, 1) := by decide +kernel
theorem dX2_move_70 : decode cX2_move 70 = .ok (.getfield 24, 3) := by decide +kernel
theorem dX2_move_73 : decode cX2_move 73 = .ok (.iload_n 2, 1) := by decide +kernel
theorem dX2_move_74 : decode cX2_move 74 = .ok (.aload_n 0, 1) := by decide +kernel
theorem dX2_move_75 : decode cX2_move 75 = .ok (.getfield 24, 3) := by decide +kernel
theorem dX2_move_78 : decode cX2_move 78 = .ok (.iload_n 1, 1) := by decide +kernel
theorem dX2_move_79 : decode cX2_move 79 = .ok (.iaload, 1) := by decide +kernel
theorem dX2_move_80 : decode cX2_move 80 = .ok (.iastore, 1) := by decide +kernel
theorem dX2_move_81 : decode cX2_move 81 = .ok (.aload_n 0, 1) := by decide +kernel
theorem dX2_move_82 : decode cX2_move 82 = .ok (.getfield 27, 3) := by decide +kernel
theorem dX2_move_85 : decode cX2_move 85 = .ok (.iload_n 2, 1) := by decide +kernel
theorem dX2_move_86 : decode cX2_move 86 = .ok (.aload_n 0, 1) := by decide +kernel
theorem dX2_move_87 : decode cX2_move 87 = .ok (.getfield 27, 3) := by decide +kernel
theorem dX2_move_90 : decode cX2_move 90 = .ok (.iload_n 1, 1) := by decide +kernel
theorem dX2_move_91 : decode cX2_move 91 = .ok (.iaload, 1) := by decide +kernel
theorem dX2_move_92 : decode cX2_move 92 = .ok (.iastore, 1) := by decide +kernel
theorem dX2_move_93 : decode cX2_move 93 = .ok (.aload_n 0, 1) := by decide +kernel
theorem dX2_move_94 : decode cX2_move 94 = .ok (.getfield 30, 3) := by decide +kernel
theorem dX2_move_97 : decode cX2_move 97 = .ok (.iload_n 2, 1) := by decide +kernel
theorem dX2_move_98 : decode cX2_move 98 = .ok (.aload_n 0, 1) := by decide +kernel
theorem dX2_move_99 : decode cX2_move 99 = .ok (.getfield 30, 3) := by decide +kernel
theorem dX2_move_102 : decode cX2_move 102 = .ok (.iload_n 1, 1) := by decide +kernel
theorem dX2_move_103 : decode cX2_move 103 = .ok (.iaload, 1) := by decide +kernel
theorem dX2_move_104 : decode cX2_move 104 = .ok (.iastore, 1) := by decide +kernel
theorem dX2_move_105 : decode cX2_move 105 = .ok (.return_, 1) := by decide +kernel
theorem dX3_init_0 : decode cX3_init 0 = .ok (.aload_n 0, 1) := by decide +kernel
theorem dX3_init_1 : decode cX3_init 1 = .ok (.invokespecial 3, 3) := by decide +kernel
theorem dX3_init_4 : decode cX3_init 4 = .ok (.aload_n 0, 1) := by decide +kernel
theorem dX3_init_5 : decode cX3_init 5 = .ok (.bipush 30, 2) := by decide +kernel
theorem dX3_init_7 : decode cX3_init 7 = .ok (.newarray .int, 2) := by decide +kernel
theorem dX3_init_9 : decode cX3_init 9 = .ok (.putfield 9, 3) := by decide +kernel
theorem dX3_init_12 : decode cX3_init 12 = .ok (.aload_n 0, 1) := by decide +kernel
theorem dX3_init_13 : decode cX3_init 13 = .ok (.bipush 30, 2) := by decide +kernel
theorem dX3_init_15 : decode cX3_init 15 = .ok (.newarray .int, 2) := by decide +kernel
theorem dX3_init_17 : decode cX3_init 17 = .ok (.putfield 15, 3) := by decide +kernel
theorem dX3_init_20 : decode cX3_init 20 = .ok (.aload_n 0, 1) := by decide +kernel
theorem dX3_init_21 : decode cX3_init 21 = .ok (.bipush 30, 2) := by decide +kernel
theorem dX3_init_23 : decode cX3_init 23 = .ok (.newarray .int, 2) := by decide +kernel
theorem dX3_init_25 : decode cX3_init 25 = .ok (.putfield 18, 3) := by decide +kernel
theorem dX3_init_28 : decode cX3_init 28 = .ok (.return_, 1) := by decide +kernel
theorem dX3_copyFrom_0 : decode cX3_copyFrom 0 = .ok (.aload_n 0, 1) := by decide +kernel
theorem dX3_copyFrom_1 : decode cX3_copyFrom 1 = .ok (.aload_n 1, 1) := by decide +kernel
theorem dX3_copyFrom_2 : decode cX3_copyFrom 2 = .ok (.getfield 21, 3) := by decide +kernel
theorem dX3_copyFrom_5 : decode cX3_copyFrom 5 = .ok (.putfield 21, 3) := by decide +kernel
theorem dX3_copyFrom_8 : decode cX3_copyFrom 8 = .ok (.aload_n 1, 1) := by decide +kernel
theorem dX3_copyFrom_9 : decode cX3_copyFrom 9 = .ok (.getfield 9, 3) := by decide +kernel
theorem dX3_copyFrom_12 : decode cX3_copyFrom 12 = .ok (.aload_n 0, 1) := by decide +kernel
theorem dX3_copyFrom_13 : decode cX3_copyFrom 13 = .ok (.getfield 9, 3) := by decide +kernel
theorem dX3_copyFrom_16 : decode cX3_copyFrom 16 = .ok (.invokestatic 25, 3) := by decide +kernel
theorem dX3_copyFrom_19 : decode cX3_copyFrom 19 = .ok (.aload_n 1, 1) := by decide +kernel
theorem dX3_copyFrom_20 : decode cX3_copyFrom 20 = .ok (.getfield 15, 3) := by decide +kernel
theorem dX3_copyFrom_23 : decode cX3_copyFrom 23 = .ok (.aload_n 0, 1) := by decide +kernel
theorem dX3_copyFrom_24 : decode cX3_copyFrom 24 = .ok (.getfield 15, 3) := by decide +kernel
theorem dX3_copyFrom_27 : decode cX3_copyFrom 27 = .ok (.invokestatic 25, 3) := by decide +kernel
theorem dX3_copyFrom_30 : decode cX3_copyFrom 30 = .ok (.aload_n 1, 1) := by decide +kernel
theorem dX3_copyFrom_31 : decode cX3_copyFrom 31 = .ok (.getfield 18, 3) := by decide +kernel
theorem dX3_copyFrom_34 : decode cX3_copyFrom 34 = .ok (.aload_n 0, 1) := by decide +kernel
theorem dX3_copyFrom_35 : decode cX3_copyFrom 35 = .ok (.getfield 18, 3) := by decide +kernel
theorem dX3_copyFrom_38 : decode cX3_copyFrom 38 = .ok (.invokestatic 25, 3) := by decide +kernel
theorem dX3_copyFrom_41 : decode cX3_copyFrom 41 = .ok (.return_, 1) := by decide +kernel
theorem dX3_add_0 : decode cX3_add 0 = .ok (.aload_n 0, 1) := by decide +kernel
theorem dX3_add_1 : decode cX3_add 1 = .ok (.getfield 21, 3) := by decide +kernel
theorem dX3_add_4 : decode cX3_add 4 = .ok (.bipush 30, 2) := by decide +kernel
theorem dX3_add_6 : decode cX3_add 6 = .ok (.if_icmp .lt 54, 3) := by decide +kernel
theorem dX3_add_9 : decode cX3_add 9 = .ok (.aload_n 0, 1) := by decide +kernel
theorem dX3_add_10 : decode cX3_add 10 = .ok (.getfield 9, 3) := by decide +kernel
theorem dX3_add_13 : decode cX3_add 13 = .ok (.iconst 1, 1) := by decide +kernel
theorem dX3_add_14 : decode cX3_add 14 = .ok (.aload_n 0, 1) := by decide +kernel
theorem dX3_add_15 : decode cX3_add 15 = .ok (.getfield 9, 3) := by decide +kernel
theorem dX3_add_18 : decode cX3_add 18 = .ok (.iconst 0, 1) := by decide +kernel
theorem dX3_add_19 : decode cX3_add 19 = .ok (.bipush 29, 2) := by decide +kernel
theorem dX3_add_21 : decode cX3_add 21 = .ok (.invokestatic 29, 3) := by decide +kernel
theorem dX3_add_24 : decode cX3_add 24 = .ok (.aload_n 0, 1) := by decide +kernel
theorem dX3_add_25 : decode cX3_add 25 = .ok (.getfield 15, 3) := by decide +kernel
theorem dX3_add_28 : decode cX3_add 28 = .ok (.iconst 1, 1) := by decide +kernel
theorem dX3_add_29 : decode cX3_add 29 = .ok (.aload_n 0, 1) := by decide +kernel
theorem dX3_add_30 : decode cX3_add 30 = .ok (.getfield 15, 3) := by decide +kernel
theorem dX3_add_33 : decode cX3_add 33 = .ok (.iconst 0, 1) := by decide +kernel
theorem dX3_add_34 : decode cX3_add 34 = .ok (.bipush 29, 2) := by decide +kernel
theorem dX3_add_36 : decode cX3_add 36 = .ok (.invokestatic 29, 3) := by decide +kernel
theorem dX3_add_39 : decode cX3_add 39 = .ok (.aload_n 0, 1) := by decide +kernel
theorem dX3_add_40 : decode cX3_add 40 = .ok (.getfield 18, 3) := by decide +kernel
theorem dX3_add_43 : decode cX3_add 43 = .ok (.iconst 1, 1) := by decide +kernel
theorem dX3_add_44 : decode cX3_add 44 = .ok (.aload_n 0, 1) := by decide +kernel
theorem dX3_add_45 : decode cX3_add 45 = .ok (.getfield 18, 3) := by decide +kernel
theorem dX3_add_48 : decode cX3_add 48 = .ok (.iconst 0, 1) := by decide +kernel
theorem dX3_add_49 : decode cX3_add 49 = .ok (.bipush 29, 2) := by decide +kernel
theorem dX3_add_51 : decode cX3_add 51 = .ok (.invokestatic 29, 3) := by decide +kernel
theorem dX3_add_54 : decode cX3_add 54 = .ok (.aload_n 0, 1) := by decide +kernel
theorem dX3_add_55 : decode cX3_add 55 = .ok (.bipush 29, 2) := by decide +kernel
theorem dX3_add_57 : decode cX3_add 57 = .ok (.putfield 21, 3) := by decide +kernel
theorem dX3_add_60 : decode cX3_add 60 = .ok (.aload_n 0, 1) := by decide +kernel
theorem dX3_add_61 : decode cX3_add 61 = .ok (.getfield 9, 3) := by decide +kernel
theorem dX3_add_64 : decode cX3_add 64 = .ok (.aload_n 0, 1) := by decide +kernel
theorem dX3_add_65 : decode cX3_add 65 = .ok (.getfield 21, 3) := by decide +kernel
theorem dX3_add_68 : decode cX3_add 68 = .ok (.iload_n 1, 1) := by decide +kernel
theorem dX3_add_69 : decode cX3_add 69 = .ok (.iastore, 1) := by decide +kernel
theorem dX3_add_70 : decode cX3_add 70 = .ok (.aload_n 0, 1) := by decide +kernel
theorem dX3_add_71 : decode cX3_add 71 = .ok (.getfield 15, 3) := by decide +kernel
theorem dX3_add_74 : decode cX3_add 74 = .ok (.aload_n 0, 1) := by decide +kernel
theorem dX3_add_75 : decode cX3_add 75 = .ok (.getfield 21, 3) := by decide +kernel
theorem dX3_add_78 : decode cX3_add 78 = .ok (.iload_n 2, 1) := by decide +kernel
theorem dX3_add_79 : decode cX3_add 79 = .ok (.iastore, 1) := by decide +kernel
theorem dX3_add_80 : decode cX3_add 80 = .ok (.aload_n 0, 1) := by decide +kernel
theorem dX3_add_81 : decode cX3_add 81 = .ok (.getfield 18, 3) := by decide +kernel
theorem dX3_add_84 : decode cX3_add 84 = .ok (.aload_n 0, 1) := by decide +kernel
theorem dX3_add_85 : decode cX3_add 85 = .ok (.getfield 21, 3) := by decide +kernel
theorem dX3_add_88 : decode cX3_add 88 = .ok (.iload_n 3, 1) := by decide +kernel
theorem dX3_add_89 : decode cX3_add 89 = .ok (.iastore, 1) := by decide +kernel
theorem dX3_add_90 : decode cX3_add 90 = .ok (.aload_n 0, 1) := by decide +kernel
theorem dX3_add_91 : decode cX3_add 91 = .ok (.dup, 1) := by decide +kernel
theorem dX3_add_92 : decode cX3_add 92 = .ok (.getfield 21, 3) := by decide +kernel
theorem dX3_add_95 : decode cX3_add 95 = .ok (.iconst 1, 1) := by decide +kernel
theorem dX3_add_96 : decode cX3_add 96 = .ok (.iadd, 1) := by decide +kernel
theorem dX3_add_97 : decode cX3_add 97 = .ok (.putfield 21, 3) := by decide +kernel
theorem dX3_add_100 : decode cX3_add 100 = .ok (.return_, 1) := by decide +kernel
theorem dX4_init_0 : decode cX4_init 0 = .ok (.aload_n 0, 1) := by decide +kernel
theorem dX4_init_1 : decode cX4_init 1 = .ok (.invokespecial 3, 3) := by decide +kernel
theorem dX4_init_4 : decode cX4_init 4 = .ok (.aload_n 0, 1) := by decide +kernel
theorem dX4_init_5 : decode cX4_init 5 = .ok (.new 9, 3) := by decide +kernel
theorem dX4_init_8 : decode cX4_init 8 = .ok (.dup, 1) := by decide +kernel
theorem dX4_init_9 : decode cX4_init 9 = .ok (.aload_n 1, 1) := by decide +kernel
theorem dX4_init_10 : decode cX4_init 10 = .ok (.invokespecial 11, 3) := by decide +kernel
theorem dX4_init_13 : decode cX4_init 13 = .ok (.putfield 14, 3) := by decide +kernel
theorem dX4_init_16 : decode cX4_init 16 = .ok (.aload_n 0, 1) := by decide +kernel
theorem dX4_init_17 : decode cX4_init 17 = .ok (.aload_n 2, 1) := by decide +kernel
theorem dX4_init_18 : decode cX4_init 18 = .ok (.putfield 20, 3) := by decide +kernel
theorem dX4_init_21 : decode cX4_init 21 = .ok (.return_, 1) := by decide +kernel
theorem dX4_read_0 : decode cX4_read 0 = .ok (.aload_n 0, 1) := by decide +kernel
theorem dX4_read_1 : decode cX4_read 1 = .ok (.iconst 0, 1) := by decide +kernel
theorem dX4_read_2 : decode cX4_read 2 = .ok (.putfield 24, 3) := by decide +kernel
theorem dX4_read_5 : decode cX4_read 5 = .ok (.aload_n 0, 1) := by decide +kernel
theorem dX4_read_6 : decode cX4_read 6 = .ok (.iconst (-1), 1) := by decide +kernel
theorem dX4_read_7 : decode cX4_read 7 = .ok (.putfield 28, 3) := by decide +kernel
theorem dX4_read_10 : decode cX4_read 10 = .ok (.aload_n 2, 1) := by decide +kernel
theorem dX4_read_11 : decode cX4_read 11 = .ok (.invokevirtual 31, 3) := by decide +kernel
theorem dX4_read_14 : decode cX4_read 14 = .ok (.aload_n 0, 1) := by decide +kernel
theorem dX4_read_15 : decode cX4_read 15 = .ok (.getfield 14, 3) := by decide +kernel
theorem dX4_read_18 : decode cX4_read 18 = .ok (.iload_n 1, 1) := by decide +kernel
theorem dX4_read_19 : decode cX4_read 19 = .ok (.invokevirtual 36, 3) := by decide +kernel
theorem dX4_read_22 : decode cX4_read 22 = .ok (.aload_n 0, 1) := by decide +kernel
theorem dX4_read_23 : decode cX4_read 23 = .ok (.getfield 14, 3) := by decide +kernel
theorem dX4_read_26 : decode cX4_read 26 = .ok (.ldc 40, 2) := by decide +kernel
theorem dX4_read_28 : decode cX4_read 28 = .ok (.invokevirtual 42, 3) := by decide +kernel
theorem dX4_read_31 : decode cX4_read 31 = .ok (.ifCond .eq 11, 3) := by decide +kernel
theorem dX4_read_34 : decode cX4_read 34 = .ok (.aload_n 0, 1) := by decide +kernel
theorem dX4_read_35 : decode cX4_read 35 = .ok (.aload_n 2, 1) := by decide +kernel
theorem dX4_read_36 : decode cX4_read 36 = .ok (.invokevirtual 46, 3) := by decide +kernel
theorem dX4_read_39 : decode cX4_read 39 = .ok (.goto 8, 3) := by decide +kernel
theorem dX4_read_42 : decode cX4_read 42 = .ok (.aload_n 0, 1) := by decide +kernel
theorem dX4_read_43 : decode cX4_read 43 = .ok (.iconst 1, 1) := by decide +kernel
theorem dX4_read_44 : decode cX4_read 44 = .ok (.invokevirtual 50, 3) := by decide +kernel
theorem dX4_read_47 : decode cX4_read 47 = .ok (.iconst 0, 1) := by decide +kernel
theorem dX4_read_48 : decode cX4_read 48 = .ok (.istore_n 3, 1) := by decide +kernel
theorem dX4_read_49 : decode cX4_read 49 = .ok (.iload_n 3, 1) := by decide +kernel
theorem dX4_read_50 : decode cX4_read 50 = .ok (.iload_n 1, 1) := by decide +kernel
theorem dX4_read_51 : decode cX4_read 51 = .ok (.if_icmp .ge 151, 3) := by decide +kernel
theorem dX4_read_54 : decode cX4_read 54 = .ok (.aload_n 0, 1) := by decide +kernel
theorem dX4_read_55 : decode cX4_read 55 = .ok (.getfield 24, 3) := by decide +kernel
theorem dX4_read_58 : decode cX4_read 58 = .ok (.ifCond .ne 144, 3) := by decide +kernel
theorem dX4_read_61 : decode cX4_read 61 = .ok (.aload_n 0, 1) := by decide +kernel
theorem dX4_read_62 : decode cX4_read 62 = .ok (.getfield 14, 3) := by decide +kernel
theorem dX4_read_65 : decode cX4_read 65 = .ok (.getfield 53, 3) := by decide +kernel
theorem dX4_read_68 : decode cX4_read 68 = .ok (.ifCond .eq 134, 3) := by decide +kernel
theorem dX4_read_71 : decode cX4_read 71 = .ok (.aload_n 0, 1) := by decide +kernel
theorem dX4_read_72 : decode cX4_read 72 = .ok (.getfield 14, 3) := by decide +kernel
theorem dX4_read_75 : decode cX4_read 75 = .ok (.ldc 56, 2) := by decide +kernel
theorem dX4_read_77 : decode cX4_read 77 = .ok (.invokevirtual 42, 3) := by decide +kernel
theorem dX4_read_80 : decode cX4_read 80 = .ok (.ifCond .eq 11, 3) := by decide +kernel
theorem dX4_read_83 : decode cX4_read 83 = .ok (.aload_n 0, 1) := by decide +kernel
theorem dX4_read_84 : decode cX4_read 84 = .ok (.aload_n 2, 1) := by decide +kernel
theorem dX4_read_85 : decode cX4_read 85 = .ok (.invokevirtual 58, 3) := by decide +kernel
theorem dX4_read_88 : decode cX4_read 88 = .ok (.goto 108, 3) := by decide +kernel
theorem dX4_read_91 : decode cX4_read 91 = .ok (.aload_n 0, 1) := by decide +kernel
theorem dX4_read_92 : decode cX4_read 92 = .ok (.getfield 14, 3) := by decide +kernel
theorem dX4_read_95 : decode cX4_read 95 = .ok (.ldc 61, 2) := by decide +kernel
theorem dX4_read_97 : decode cX4_read 97 = .ok (.invokevirtual 42, 3) := by decide +kernel
theorem dX4_read_100 : decode cX4_read 100 = .ok (.ifCond .eq 11, 3) := by decide +kernel
theorem dX4_read_103 : decode cX4_read 103 = .ok (.aload_n 0, 1) := by decide +kernel
theorem dX4_read_104 : decode cX4_read 104 = .ok (.aload_n 2, 1) := by decide +kernel
theorem dX4_read_105 : decode cX4_read 105 = .ok (.invokevirtual 63, 3) := by decide +kernel
theorem dX4_read_108 : decode cX4_read 108 = .ok (.goto 88, 3) := by decide +kernel
theorem dX4_read_111 : decode cX4_read 111 = .ok (.aload_n 0, 1) := by decide +kernel
theorem dX4_read_112 : decode cX4_read 112 = .ok (.getfield 14, 3) := by decide +kernel
theorem dX4_read_115 : decode cX4_read 115 = .ok (.ldc 66, 2) := by decide +kernel
theorem dX4_read_117 : decode cX4_read 117 = .ok (.invokevirtual 42, 3) := by decide +kernel
theorem dX4_read_120 : decode cX4_read 120 = .ok (.ifCond .eq 11, 3) := by decide +kernel
theorem dX4_read_123 : decode cX4_read 123 = .ok (.aload_n 0, 1) := by decide +kernel
theorem dX4_read_124 : decode cX4_read 124 = .ok (.aload_n 2, 1) := by decide +kernel
theorem dX4_read_125 : decode cX4_read 125 = .ok (.invokevirtual 68, 3) := by decide +kernel
theorem dX4_read_128 : decode cX4_read 128 = .ok (.goto 68, 3) := by decide +kernel
theorem dX4_read_131 : decode cX4_read 131 = .ok (.aload_n 0, 1) := by decide +kernel
theorem dX4_read_132 : decode cX4_read 132 = .ok (.getfield 14, 3) := by decide +kernel
theorem dX4_read_135 : decode cX4_read 135 = .ok (.ldc 71, 2) := by decide +kernel
theorem dX4_read_137 : decode cX4_read 137 = .ok (.invokevirtual 42, 3) := by decide +kernel
theorem dX4_read_140 : decode cX4_read 140 = .ok (.ifCond .eq 11, 3) := by decide +kernel
theorem dX4_read_143 : decode cX4_read 143 = .ok (.aload_n 0, 1) := by decide +kernel
theorem dX4_read_144 : decode cX4_read 144 = .ok (.aload_n 2, 1) := by decide +kernel
theorem dX4_read_145 : decode cX4_read 145 = .ok (.invokevirtual 72, 3) := by decide +kernel
theorem dX4_read_148 : decode cX4_read 148 = .ok (.goto 48, 3) := by decide +kernel
theorem dX4_read_151 : decode cX4_read 151 = .ok (.aload_n 0, 1) := by decide +kernel
theorem dX4_read_152 : decode cX4_read 152 = .ok (.getfield 14, 3) := by decide +kernel
theorem dX4_read_155 : decode cX4_read 155 = .ok (.ldc 75, 2) := by decide +kernel
theorem dX4_read_157 : decode cX4_read 157 = .ok (.invokevirtual 42, 3) := by decide +kernel
theorem dX4_read_160 : decode cX4_read 160 = .ok (.ifCond .eq 11, 3) := by decide +kernel
theorem dX4_read_163 : decode cX4_read 163 = .ok (.aload_n 0, 1) := by decide +kernel
theorem dX4_read_164 : decode cX4_read 164 = .ok (.aload_n 2, 1) := by decide +kernel
theorem dX4_read_165 : decode cX4_read 165 = .ok (.invokevirtual 77, 3) := by decide +kernel
theorem dX4_read_168 : decode cX4_read 168 = .ok (.goto 28, 3) := by decide +kernel
theorem dX4_read_171 : decode cX4_read 171 = .ok (.aload_n 0, 1) := by decide +kernel
theorem dX4_read_172 : decode cX4_read 172 = .ok (.getfield 14, 3) := by decide +kernel
theorem dX4_read_175 : decode cX4_read 175 = .ok (.ldc 80, 2) := by decide +kernel
theorem dX4_read_177 : decode cX4_read 177 = .ok (.invokevirtual 42, 3) := by decide +kernel
theorem dX4_read_180 : decode cX4_read 180 = .ok (.ifCond .eq 11, 3) := by decide +kernel
theorem dX4_read_183 : decode cX4_read 183 = .ok (.aload_n 0, 1) := by decide +kernel
theorem dX4_read_184 : decode cX4_read 184 = .ok (.aload_n 2, 1) := by decide +kernel
theorem dX4_read_185 : decode cX4_read 185 = .ok (.invokevirtual 82, 3) := by decide +kernel
theorem dX4_read_188 : decode cX4_read 188 = .ok (.goto 8, 3) := by decide +kernel
theorem dX4_read_191 : decode cX4_read 191 = .ok (.aload_n 0, 1) := by decide +kernel
theorem dX4_read_192 : decode cX4_read 192 = .ok (.iconst 1, 1) := by decide +kernel
theorem dX4_read_193 : decode cX4_read 193 = .ok (.invokevirtual 50, 3) := by decide +kernel
theorem dX4_read_196 : decode cX4_read 196 = .ok (.iinc 3 1, 3) := by decide +kernel
theorem dX4_read_199 : decode cX4_read 199 = .ok (.goto (-150), 3) := by decide +kernel
theorem dX4_read_202 : decode cX4_read 202 = .ok (.return_, 1) := by decide +kernel
theorem dX4_marketStatement_0 : decode cX4_marketStatement 0 = .ok (.aload_n 0, 1) := by decide +kernel
theorem dX4_marketStatement_1 : decode cX4_marketStatement 1 = .ok (.getfield 14, 3) := by decide +kernel
theorem dX4_marketStatement_4 : decode cX4_marketStatement 4 = .ok (.invokevirtual 85, 3) := by decide +kernel
theorem dX4_marketStatement_7 : decode cX4_marketStatement 7 = .ok (.aload_n 0, 1) := by decide +kernel
theorem dX4_marketStatement_8 : decode cX4_marketStatement 8 = .ok (.iconst 1, 1) := by decide +kernel
theorem dX4_marketStatement_9 : decode cX4_marketStatement 9 = .ok (.bipush 99, 2) := by decide +kernel
theorem dX4_marketStatement_11 : decode cX4_marketStatement 11 = .ok (.invokevirtual 88, 3) := by decide +kernel
theorem dX4_marketStatement_14 : decode cX4_marketStatement 14 = .ok (.istore_n 2, 1) := by decide +kernel
theorem dX4_marketStatement_15 : decode cX4_marketStatement 15 = .ok (.aload_n 0, 1) := by decide +kernel
theorem dX4_marketStatement_16 : decode cX4_marketStatement 16 = .ok (.iconst 1, 1) := by decide +kernel
theorem dX4_marketStatement_17 : decode cX4_marketStatement 17 = .ok (.bipush 99, 2) := by decide +kernel
theorem dX4_marketStatement_19 : decode cX4_marketStatement 19 = .ok (.invokevirtual 88, 3) := by decide +kernel
theorem dX4_marketStatement_22 : decode cX4_marketStatement 22 = .ok (.istore_n 3, 1) := by decide +kernel
theorem dX4_marketStatement_23 : decode cX4_marketStatement 23 = .ok (.aload_n 0, 1) := by decide +kernel
theorem dX4_marketStatement_24 : decode cX4_marketStatement 24 = .ok (.iconst 1, 1) := by decide +kernel
theorem dX4_marketStatement_25 : decode cX4_marketStatement 25 = .ok (.bipush 99, 2) := by decide +kernel
theorem dX4_marketStatement_27 : decode cX4_marketStatement 27 = .ok (.invokevirtual 88, 3) := by decide +kernel
theorem dX4_marketStatement_30 : decode cX4_marketStatement 30 = .ok (.istore 4, 2) := by decide +kernel
theorem dX4_marketStatement_32 : decode cX4_marketStatement 32 = .ok (.aload_n 0, 1) := by decide +kernel
theorem dX4_marketStatement_33 : decode cX4_marketStatement 33 = .ok (.invokevirtual 92, 3) := by decide +kernel
theorem dX4_marketStatement_36 : decode cX4_marketStatement 36 = .ok (.aload_n 0, 1) := by decide +kernel
theorem dX4_marketStatement_37 : decode cX4_marketStatement 37 = .ok (.getfield 24, 3) := by decide +kernel
theorem dX4_marketStatement_40 : decode cX4_marketStatement 40 = .ok (.ifCond .ne 25, 3) := by decide +kernel
theorem dX4_marketStatement_43 : decode cX4_marketStatement 43 = .ok (.aload_n 1, 1) := by decide +kernel
theorem dX4_marketStatement_44 : decode cX4_marketStatement 44 = .ok (.getfield 95, 3) := by decide +kernel
theorem dX4_marketStatement_47 : decode cX4_marketStatement 47 = .ok (.iconst 0, 1) := by decide +kernel
theorem dX4_marketStatement_48 : decode cX4_marketStatement 48 = .ok (.iload_n 2, 1) := by decide +kernel
theorem dX4_marketStatement_49 : decode cX4_marketStatement 49 = .ok (.iastore, 1) := by decide +kernel
theorem dX4_marketStatement_50 : decode cX4_marketStatement 50 = .ok (.aload_n 1, 1) := by decide +kernel
theorem dX4_marketStatement_51 : decode cX4_marketStatement 51 = .ok (.getfield 95, 3) := by decide +kernel
theorem dX4_marketStatement_54 : decode cX4_marketStatement 54 = .ok (.iconst 1, 1) := by decide +kernel
theorem dX4_marketStatement_55 : decode cX4_marketStatement 55 = .ok (.iload_n 3, 1) := by decide +kernel
theorem dX4_marketStatement_56 : decode cX4_marketStatement 56 = .ok (.iastore, 1) := by decide +kernel
theorem dX4_marketStatement_57 : decode cX4_marketStatement 57 = .ok (.aload_n 1, 1) := by decide +kernel
theorem dX4_marketStatement_58 : decode cX4_marketStatement 58 = .ok (.getfield 95, 3) := by decide +kernel
theorem dX4_marketStatement_61 : decode cX4_marketStatement 61 = .ok (.iconst 2, 1) := by decide +kernel
theorem dX4_marketStatement_62 : decode cX4_marketStatement 62 = .ok (.iload 4, 2) := by decide +kernel
theorem dX4_marketStatement_64 : decode cX4_marketStatement 64 = .ok (.iastore, 1) := by decide +kernel
theorem dX4_marketStatement_65 : decode cX4_marketStatement 65 = .ok (.return_, 1) := by decide +kernel
theorem dX4_bakerStatement_0 : decode cX4_bakerStatement 0 = .ok (.aload_n 1, 1) := by decide +kernel
theorem dX4_bakerStatement_1 : decode cX4_bakerStatement 1 = .ok (.getfield 99, 3) := by decide +kernel
theorem dX4_bakerStatement_4 : decode cX4_bakerStatement 4 = .ok (.getfield 103, 3) := by decide +kernel
theorem dX4_bakerStatement_7 : decode cX4_bakerStatement 7 = .ok (.iconst 4, 1) := by decide +kernel
theorem dX4_bakerStatement_8 : decode cX4_bakerStatement 8 = .ok (.if_icmp .lt 9, 3) := by decide +kernel
theorem dX4_bakerStatement_11 : decode cX4_bakerStatement 11 = .ok (.aload_n 0, 1) := by decide +kernel
theorem dX4_bakerStatement_12 : decode cX4_bakerStatement 12 = .ok (.iconst 5, 1) := by decide +kernel
theorem dX4_bakerStatement_13 : decode cX4_bakerStatement 13 = .ok (.invokevirtual 50, 3) := by decide +kernel
theorem dX4_bakerStatement_16 : decode cX4_bakerStatement 16 = .ok (.return_, 1) := by decide +kernel
theorem dX4_bakerStatement_17 : decode cX4_bakerStatement 17 = .ok (.aload_n 0, 1) := by decide +kernel
theorem dX4_bakerStatement_18 : decode cX4_bakerStatement 18 = .ok (.getfield 14, 3) := by decide +kernel
theorem dX4_bakerStatement_21 : decode cX4_bakerStatement 21 = .ok (.invokevirtual 85, 3) := by decide +kernel
theorem dX4_bakerStatement_24 : decode cX4_bakerStatement 24 = .ok (.aload_n 0, 1) := by decide +kernel
theorem dX4_bakerStatement_25 : decode cX4_bakerStatement 25 = .ok (.aload_n 1, 1) := by decide +kernel
theorem dX4_bakerStatement_26 : decode cX4_bakerStatement 26 = .ok (.invokevirtual 108, 3) := by decide +kernel
theorem dX4_bakerStatement_29 : decode cX4_bakerStatement 29 = .ok (.istore_n 2, 1) := by decide +kernel
theorem dX4_bakerStatement_30 : decode cX4_bakerStatement 30 = .ok (.aload_n 0, 1) := by decide +kernel
theorem dX4_bakerStatement_31 : decode cX4_bakerStatement 31 = .ok (.iconst 1, 1) := by decide +kernel
theorem dX4_bakerStatement_32 : decode cX4_bakerStatement 32 = .ok (.bipush 12, 2) := by decide +kernel
theorem dX4_bakerStatement_34 : decode cX4_bakerStatement 34 = .ok (.invokevirtual 88, 3) := by decide +kernel
theorem dX4_bakerStatement_37 : decode cX4_bakerStatement 37 = .ok (.istore_n 3, 1) := by decide +kernel
theorem dX4_bakerStatement_38 : decode cX4_bakerStatement 38 = .ok (.aload_n 0, 1) := by decide +kernel
theorem dX4_bakerStatement_39 : decode cX4_bakerStatement 39 = .ok (.iconst 1, 1) := by decide +kernel
theorem dX4_bakerStatement_40 : decode cX4_bakerStatement 40 = .ok (.bipush 9, 2) := by decide +kernel
theorem dX4_bakerStatement_42 : decode cX4_bakerStatement 42 = .ok (.invokevirtual 88, 3) := by decide +kernel
theorem dX4_bakerStatement_45 : decode cX4_bakerStatement 45 = .ok (.istore 4, 2) := by decide +kernel
theorem dX4_bakerStatement_47 : decode cX4_bakerStatement 47 = .ok (.aload_n 0, 1) := by decide +kernel
theorem dX4_bakerStatement_48 : decode cX4_bakerStatement 48 = .ok (.invokevirtual 92, 3) := by decide +kernel
theorem dX4_bakerStatement_51 : decode cX4_bakerStatement 51 = .ok (.aload_n 0, 1) := by decide +kernel
theorem dX4_bakerStatement_52 : decode cX4_bakerStatement 52 = .ok (.getfield 24, 3) := by decide +kernel
theorem dX4_bakerStatement_55 : decode cX4_bakerStatement 55 = .ok (.ifCond .ne 14, 3) := by decide +kernel
theorem dX4_bakerStatement_58 : decode cX4_bakerStatement 58 = .ok (.aload_n 1, 1) := by decide +kernel
theorem dX4_bakerStatement_59 : decode cX4_bakerStatement 59 = .ok (.getfield 99, 3) := by decide +kernel
theorem dX4_bakerStatement_62 : decode cX4_bakerStatement 62 = .ok (.iload_n 2, 1) := by decide +kernel
theorem dX4_bakerStatement_63 : decode cX4_bakerStatement 63 = .ok (.iload_n 3, 1) := by decide +kernel
theorem dX4_bakerStatement_64 : decode cX4_bakerStatement 64 = .ok (.iload 4, 2) := by decide +kernel
theorem dX4_bakerStatement_66 : decode cX4_bakerStatement 66 = .ok (.invokevirtual 112, 3) := by decide +kernel
theorem dX4_bakerStatement_69 : decode cX4_bakerStatement 69 = .ok (.return_, 1) := by decide +kernel
theorem dX4_bakeStatement_0 : decode cX4_bakeStatement 0 = .ok (.aload_n 0, 1) := by decide +kernel
theorem dX4_bakeStatement_1 : decode cX4_bakeStatement 1 = .ok (.getfield 14, 3) := by decide +kernel
theorem dX4_bakeStatement_4 : decode cX4_bakeStatement 4 = .ok (.invokevirtual 85, 3) := by decide +kernel
theorem dX4_bakeStatement_7 : decode cX4_bakeStatement 7 = .ok (.aload_n 0, 1) := by decide +kernel
theorem dX4_bakeStatement_8 : decode cX4_bakeStatement 8 = .ok (.aload_n 1, 1) := by decide +kernel
theorem dX4_bakeStatement_9 : decode cX4_bakeStatement 9 = .ok (.getfield 99, 3) := by decide +kernel
theorem dX4_bakeStatement_12 : decode cX4_bakeStatement 12 = .ok (.invokevirtual 116, 3) := by decide +kernel
theorem dX4_bakeStatement_15 : decode cX4_bakeStatement 15 = .ok (.istore_n 2, 1) := by decide +kernel
theorem dX4_bakeStatement_16 : decode cX4_bakeStatement 16 = .ok (.aload_n 0, 1) := by decide +kernel
theorem dX4_bakeStatement_17 : decode cX4_bakeStatement 17 = .ok (.invokevirtual 120, 3) := by decide +kernel
theorem dX4_bakeStatement_20 : decode cX4_bakeStatement 20 = .ok (.istore_n 3, 1) := by decide +kernel
theorem dX4_bakeStatement_21 : decode cX4_bakeStatement 21 = .ok (.aload_n 0, 1) := by decide +kernel
theorem dX4_bakeStatement_22 : decode cX4_bakeStatement 22 = .ok (.getfield 24, 3) := by decide +kernel
theorem dX4_bakeStatement_25 : decode cX4_bakeStatement 25 = .ok (.ifCond .ne 27, 3) := by decide +kernel
theorem dX4_bakeStatement_28 : decode cX4_bakeStatement 28 = .ok (.aload_n 0, 1) := by decide +kernel
theorem dX4_bakeStatement_29 : decode cX4_bakeStatement 29 = .ok (.getfield 14, 3) := by decide +kernel
theorem dX4_bakeStatement_32 : decode cX4_bakeStatement 32 = .ok (.invokevirtual 124, 3) := by decide +kernel
theorem dX4_bakeStatement_35 : decode cX4_bakeStatement 35 = .ok (.ifCond .eq 17, 3) := by decide +kernel
theorem dX4_bakeStatement_38 : decode cX4_bakeStatement 38 = .ok (.aload_n 1, 1) := by decide +kernel
theorem dX4_bakeStatement_39 : decode cX4_bakeStatement 39 = .ok (.iload_n 2, 1) := by decide +kernel
theorem dX4_bakeStatement_40 : decode cX4_bakeStatement 40 = .ok (.invokevirtual 128, 3) := by decide +kernel
theorem dX4_bakeStatement_43 : decode cX4_bakeStatement 43 = .ok (.ifCond .eq 9, 3) := by decide +kernel
theorem dX4_bakeStatement_46 : decode cX4_bakeStatement 46 = .ok (.aload_n 0, 1) := by decide +kernel
theorem dX4_bakeStatement_47 : decode cX4_bakeStatement 47 = .ok (.bipush 6, 2) := by decide +kernel
theorem dX4_bakeStatement_49 : decode cX4_bakeStatement 49 = .ok (.invokevirtual 50, 3) := by decide +kernel
theorem dX4_bakeStatement_52 : decode cX4_bakeStatement 52 = .ok (.aload_n 0, 1) := by decide +kernel
theorem dX4_bakeStatement_53 : decode cX4_bakeStatement 53 = .ok (.invokevirtual 92, 3) := by decide +kernel
theorem dX4_bakeStatement_56 : decode cX4_bakeStatement 56 = .ok (.aload_n 0, 1) := by decide +kernel
theorem dX4_bakeStatement_57 : decode cX4_bakeStatement 57 = .ok (.getfield 24, 3) := by decide +kernel
theorem dX4_bakeStatement_60 : decode cX4_bakeStatement 60 = .ok (.ifCond .ne 12, 3) := by decide +kernel
theorem dX4_bakeStatement_63 : decode cX4_bakeStatement 63 = .ok (.aload_n 1, 1) := by decide +kernel
theorem dX4_bakeStatement_64 : decode cX4_bakeStatement 64 = .ok (.getfield 99, 3) := by decide +kernel
theorem dX4_bakeStatement_67 : decode cX4_bakeStatement 67 = .ok (.iload_n 2, 1) := by decide +kernel
theorem dX4_bakeStatement_68 : decode cX4_bakeStatement 68 = .ok (.iload_n 3, 1) := by decide +kernel
theorem dX4_bakeStatement_69 : decode cX4_bakeStatement 69 = .ok (.invokevirtual 132, 3) := by decide +kernel
theorem dX4_bakeStatement_72 : decode cX4_bakeStatement 72 = .ok (.return_, 1) := by decide +kernel
theorem dX4_customerStatement_0 : decode cX4_customerStatement 0 = .ok (.aload_n 1, 1) := by decide +kernel
theorem dX4_customerStatement_1 : decode cX4_customerStatement 1 = .ok (.getfield 135, 3) := by decide +kernel
theorem dX4_customerStatement_4 : decode cX4_customerStatement 4 = .ok (.getfield 139, 3) := by decide +kernel
theorem dX4_customerStatement_7 : decode cX4_customerStatement 7 = .ok (.bipush 10, 2) := by decide +kernel
theorem dX4_customerStatement_9 : decode cX4_customerStatement 9 = .ok (.if_icmp .lt 9, 3) := by decide +kernel
theorem dX4_customerStatement_12 : decode cX4_customerStatement 12 = .ok (.aload_n 0, 1) := by decide +kernel
theorem dX4_customerStatement_13 : decode cX4_customerStatement 13 = .ok (.iconst 5, 1) := by decide +kernel
theorem dX4_customerStatement_14 : decode cX4_customerStatement 14 = .ok (.invokevirtual 50, 3) := by decide +kernel
theorem dX4_customerStatement_17 : decode cX4_customerStatement 17 = .ok (.return_, 1) := by decide +kernel
theorem dX4_customerStatement_18 : decode cX4_customerStatement 18 = .ok (.aload_n 0, 1) := by decide +kernel
theorem dX4_customerStatement_19 : decode cX4_customerStatement 19 = .ok (.getfield 14, 3) := by decide +kernel
theorem dX4_customerStatement_22 : decode cX4_customerStatement 22 = .ok (.invokevirtual 85, 3) := by decide +kernel
theorem dX4_customerStatement_25 : decode cX4_customerStatement 25 = .ok (.aload_n 0, 1) := by decide +kernel
theorem dX4_customerStatement_26 : decode cX4_customerStatement 26 = .ok (.aload_n 1, 1) := by decide +kernel
theorem dX4_customerStatement_27 : decode cX4_customerStatement 27 = .ok (.invokevirtual 108, 3) := by decide +kernel
theorem dX4_customerStatement_30 : decode cX4_customerStatement 30 = .ok (.istore_n 2, 1) := by decide +kernel
theorem dX4_customerStatement_31 : decode cX4_customerStatement 31 = .ok (.aload_n 0, 1) := by decide +kernel
theorem dX4_customerStatement_32 : decode cX4_customerStatement 32 = .ok (.invokevirtual 120, 3) := by decide +kernel
theorem dX4_customerStatement_35 : decode cX4_customerStatement 35 = .ok (.istore_n 3, 1) := by decide +kernel
theorem dX4_customerStatement_36 : decode cX4_customerStatement 36 = .ok (.aload_n 0, 1) := by decide +kernel
theorem dX4_customerStatement_37 : decode cX4_customerStatement 37 = .ok (.iconst 1, 1) := by decide +kernel
theorem dX4_customerStatement_38 : decode cX4_customerStatement 38 = .ok (.bipush 9, 2) := by decide +kernel
theorem dX4_customerStatement_40 : decode cX4_customerStatement 40 = .ok (.invokevirtual 88, 3) := by decide +kernel
theorem dX4_customerStatement_43 : decode cX4_customerStatement 43 = .ok (.istore 4, 2) := by decide +kernel
theorem dX4_customerStatement_45 : decode cX4_customerStatement 45 = .ok (.aload_n 0, 1) := by decide +kernel
theorem dX4_customerStatement_46 : decode cX4_customerStatement 46 = .ok (.iconst 1, 1) := by decide +kernel
theorem dX4_customerStatement_47 : decode cX4_customerStatement 47 = .ok (.bipush 99, 2) := by decide +kernel
theorem dX4_customerStatement_49 : decode cX4_customerStatement 49 = .ok (.invokevirtual 88, 3) := by decide +kernel
theorem dX4_customerStatement_52 : decode cX4_customerStatement 52 = .ok (.istore 5, 2) := by decide +kernel
theorem dX4_customerStatement_54 : decode cX4_customerStatement 54 = .ok (.aload_n 0, 1) := by decide +kernel
theorem dX4_customerStatement_55 : decode cX4_customerStatement 55 = .ok (.iconst 0, 1) := by decide +kernel
theorem dX4_customerStatement_56 : decode cX4_customerStatement 56 = .ok (.sipush 999, 3) := by decide +kernel
theorem dX4_customerStatement_59 : decode cX4_customerStatement 59 = .ok (.invokevirtual 88, 3) := by decide +kernel
theorem dX4_customerStatement_62 : decode cX4_customerStatement 62 = .ok (.istore 6, 2) := by decide +kernel
theorem dX4_customerStatement_64 : decode cX4_customerStatement 64 = .ok (.aload_n 0, 1) := by decide +kernel
theorem dX4_customerStatement_65 : decode cX4_customerStatement 65 = .ok (.iconst 1, 1) := by decide +kernel
theorem dX4_customerStatement_66 : decode cX4_customerStatement 66 = .ok (.bipush 99, 2) := by decide +kernel
theorem dX4_customerStatement_68 : decode cX4_customerStatement 68 = .ok (.invokevirtual 88, 3) := by decide +kernel
theorem dX4_customerStatement_71 : decode cX4_customerStatement 71 = .ok (.istore 7, 2) := by decide +kernel
theorem dX4_customerStatement_73 : decode cX4_customerStatement 73 = .ok (.aload_n 0, 1) := by decide +kernel
theorem dX4_customerStatement_74 : decode cX4_customerStatement 74 = .ok (.invokevirtual 92, 3) := by decide +kernel
theorem dX4_customerStatement_77 : decode cX4_customerStatement 77 = .ok (.aload_n 0, 1) := by decide +kernel
theorem dX4_customerStatement_78 : decode cX4_customerStatement 78 = .ok (.getfield 24, 3) := by decide +kernel
theorem dX4_customerStatement_81 : decode cX4_customerStatement 81 = .ok (.ifCond .ne 18, 3) := by decide +kernel
theorem dX4_customerStatement_84 : decode cX4_customerStatement 84 = .ok (.aload_n 1, 1) := by decide +kernel
theorem dX4_customerStatement_85 : decode cX4_customerStatement 85 = .ok (.iload_n 2, 1) := by decide +kernel
theorem dX4_customerStatement_86 : decode cX4_customerStatement 86 = .ok (.iload_n 3, 1) := by decide +kernel
theorem dX4_customerStatement_87 : decode cX4_customerStatement 87 = .ok (.iload 4, 2) := by decide +kernel
theorem dX4_customerStatement_89 : decode cX4_customerStatement 89 = .ok (.iload 5, 2) := by decide +kernel
theorem dX4_customerStatement_91 : decode cX4_customerStatement 91 = .ok (.iload 6, 2) := by decide +kernel
theorem dX4_customerStatement_93 : decode cX4_customerStatement 93 = .ok (.iload 7, 2) := by decide +kernel
theorem dX4_customerStatement_95 : decode cX4_customerStatement 95 = .ok (.invokevirtual 142, 3) := by decide +kernel
theorem dX4_customerStatement_98 : decode cX4_customerStatement 98 = .ok (.pop, 1) := by decide +kernel
theorem dX4_customerStatement_99 : decode cX4_customerStatement 99 = .ok (.return_, 1) := by decide +kernel
theorem dX4_auctionStatement_0 : decode cX4_auctionStatement 0 = .ok (.aload_n 0, 1) := by decide +kernel
theorem dX4_auctionStatement_1 : decode cX4_auctionStatement 1 = .ok (.getfield 14, 3) := by decide +kernel
theorem dX4_auctionStatement_4 : decode cX4_auctionStatement 4 = .ok (.invokevirtual 85, 3) := by decide +kernel
theorem dX4_auctionStatement_7 : decode cX4_auctionStatement 7 = .ok (.aload_n 0, 1) := by decide +kernel
theorem dX4_auctionStatement_8 : decode cX4_auctionStatement 8 = .ok (.invokevirtual 120, 3) := by decide +kernel
theorem dX4_auctionStatement_11 : decode cX4_auctionStatement 11 = .ok (.istore_n 2, 1) := by decide +kernel
theorem dX4_auctionStatement_12 : decode cX4_auctionStatement 12 = .ok (.aload_n 0, 1) := by decide +kernel
theorem dX4_auctionStatement_13 : decode cX4_auctionStatement 13 = .ok (.invokevirtual 92, 3) := by decide +kernel
theorem dX4_auctionStatement_16 : decode cX4_auctionStatement 16 = .ok (.aload_n 0, 1) := by decide +kernel
theorem dX4_auctionStatement_17 : decode cX4_auctionStatement 17 = .ok (.getfield 24, 3) := by decide +kernel
theorem dX4_auctionStatement_20 : decode cX4_auctionStatement 20 = .ok (.ifCond .ne 12, 3) := by decide +kernel
theorem dX4_auctionStatement_23 : decode cX4_auctionStatement 23 = .ok (.aload_n 0, 1) := by decide +kernel
theorem dX4_auctionStatement_24 : decode cX4_auctionStatement 24 = .ok (.getfield 20, 3) := by decide +kernel
theorem dX4_auctionStatement_27 : decode cX4_auctionStatement 27 = .ok (.aload_n 1, 1) := by decide +kernel
theorem dX4_auctionStatement_28 : decode cX4_auctionStatement 28 = .ok (.iload_n 2, 1) := by decide +kernel
theorem dX4_auctionStatement_29 : decode cX4_auctionStatement 29 = .ok (.invokevirtual 146, 3) := by decide +kernel
theorem dX4_auctionStatement_32 : decode cX4_auctionStatement 32 = .ok (.return_, 1) := by decide +kernel
theorem dX4_sparrowsStatement_0 : decode cX4_sparrowsStatement 0 = .ok (.aload_n 0, 1) := by decide +kernel
theorem dX4_sparrowsStatement_1 : decode cX4_sparrowsStatement 1 = .ok (.getfield 14, 3) := by decide +kernel
theorem dX4_sparrowsStatement_4 : decode cX4_sparrowsStatement 4 = .ok (.invokevirtual 85, 3) := by decide +kernel
theorem dX4_sparrowsStatement_7 : decode cX4_sparrowsStatement 7 = .ok (.aload_n 0, 1) := by decide +kernel
theorem dX4_sparrowsStatement_8 : decode cX4_sparrowsStatement 8 = .ok (.iconst 0, 1) := by decide +kernel
theorem dX4_sparrowsStatement_9 : decode cX4_sparrowsStatement 9 = .ok (.bipush 9, 2) := by decide +kernel
theorem dX4_sparrowsStatement_11 : decode cX4_sparrowsStatement 11 = .ok (.invokevirtual 88, 3) := by decide +kernel
theorem dX4_sparrowsStatement_14 : decode cX4_sparrowsStatement 14 = .ok (.istore_n 2, 1) := by decide +kernel
theorem dX4_sparrowsStatement_15 : decode cX4_sparrowsStatement 15 = .ok (.aload_n 0, 1) := by decide +kernel
theorem dX4_sparrowsStatement_16 : decode cX4_sparrowsStatement 16 = .ok (.iconst 0, 1) := by decide +kernel
theorem dX4_sparrowsStatement_17 : decode cX4_sparrowsStatement 17 = .ok (.sipush 999, 3) := by decide +kernel
theorem dX4_sparrowsStatement_20 : decode cX4_sparrowsStatement 20 = .ok (.invokevirtual 88, 3) := by decide +kernel
theorem dX4_sparrowsStatement_23 : decode cX4_sparrowsStatement 23 = .ok (.istore_n 3, 1) := by decide +kernel
theorem dX4_sparrowsStatement_24 : decode cX4_sparrowsStatement 24 = .ok (.aload_n 0, 1) := by decide +kernel
theorem dX4_sparrowsStatement_25 : decode cX4_sparrowsStatement 25 = .ok (.invokevirtual 92, 3) := by decide +kernel
theorem dX4_sparrowsStatement_28 : decode cX4_sparrowsStatement 28 = .ok (.aload_n 0, 1) := by decide +kernel
theorem dX4_sparrowsStatement_29 : decode cX4_sparrowsStatement 29 = .ok (.getfield 24, 3) := by decide +kernel
theorem dX4_sparrowsStatement_32 : decode cX4_sparrowsStatement 32 = .ok (.ifCond .ne 13, 3) := by decide +kernel
theorem dX4_sparrowsStatement_35 : decode cX4_sparrowsStatement 35 = .ok (.aload_n 1, 1) := by decide +kernel
theorem dX4_sparrowsStatement_36 : decode cX4_sparrowsStatement 36 = .ok (.iload_n 2, 1) := by decide +kernel
theorem dX4_sparrowsStatement_37 : decode cX4_sparrowsStatement 37 = .ok (.putfield 152, 3) := by decide +kernel
theorem dX4_sparrowsStatement_40 : decode cX4_sparrowsStatement 40 = .ok (.aload_n 1, 1) := by decide +kernel
theorem dX4_sparrowsStatement_41 : decode cX4_sparrowsStatement 41 = .ok (.iload_n 3, 1) := by decide +kernel
theorem dX4_sparrowsStatement_42 : decode cX4_sparrowsStatement 42 = .ok (.putfield 154, 3) := by decide +kernel
theorem dX4_sparrowsStatement_45 : decode cX4_sparrowsStatement 45 = .ok (.return_, 1) := by decide +kernel
theorem dX4_hoursStatement_0 : decode cX4_hoursStatement 0 = .ok (.aload_n 0, 1) := by decide +kernel
theorem dX4_hoursStatement_1 : decode cX4_hoursStatement 1 = .ok (.getfield 14, 3) := by decide +kernel
theorem dX4_hoursStatement_4 : decode cX4_hoursStatement 4 = .ok (.invokevirtual 85, 3) := by decide +kernel
theorem dX4_hoursStatement_7 : decode cX4_hoursStatement 7 = .ok (.aload_n 0, 1) := by decide +kernel
theorem dX4_hoursStatement_8 : decode cX4_hoursStatement 8 = .ok (.iconst 0, 1) := by decide +kernel
theorem dX4_hoursStatement_9 : decode cX4_hoursStatement 9 = .ok (.bipush 60, 2) := by decide +kernel
theorem dX4_hoursStatement_11 : decode cX4_hoursStatement 11 = .ok (.invokevirtual 88, 3) := by decide +kernel
theorem dX4_hoursStatement_14 : decode cX4_hoursStatement 14 = .ok (.istore_n 2, 1) := by decide +kernel
theorem dX4_hoursStatement_15 : decode cX4_hoursStatement 15 = .ok (.aload_n 0, 1) := by decide +kernel
theorem dX4_hoursStatement_16 : decode cX4_hoursStatement 16 = .ok (.invokevirtual 92, 3) := by decide +kernel
theorem dX4_hoursStatement_19 : decode cX4_hoursStatement 19 = .ok (.iconst 0, 1) := by decide +kernel
theorem dX4_hoursStatement_20 : decode cX4_hoursStatement 20 = .ok (.istore_n 3, 1) := by decide +kernel
theorem dX4_hoursStatement_21 : decode cX4_hoursStatement 21 = .ok (.iload_n 3, 1) := by decide +kernel
theorem dX4_hoursStatement_22 : decode cX4_hoursStatement 22 = .ok (.iload_n 2, 1) := by decide +kernel
theorem dX4_hoursStatement_23 : decode cX4_hoursStatement 23 = .ok (.if_icmp .ge 20, 3) := by decide +kernel
theorem dX4_hoursStatement_26 : decode cX4_hoursStatement 26 = .ok (.aload_n 0, 1) := by decide +kernel
theorem dX4_hoursStatement_27 : decode cX4_hoursStatement 27 = .ok (.getfield 24, 3) := by decide +kernel
theorem dX4_hoursStatement_30 : decode cX4_hoursStatement 30 = .ok (.ifCond .ne 13, 3) := by decide +kernel
theorem dX4_hoursStatement_33 : decode cX4_hoursStatement 33 = .ok (.aload_n 1, 1) := by decide +kernel
theorem dX4_hoursStatement_34 : decode cX4_hoursStatement 34 = .ok (.invokevirtual 157, 3) := by decide +kernel
theorem dX4_hoursStatement_37 : decode cX4_hoursStatement 37 = .ok (.iinc 3 1, 3) := by decide +kernel
theorem dX4_hoursStatement_40 : decode cX4_hoursStatement 40 = .ok (.goto (-19), 3) := by decide +kernel
theorem dX4_hoursStatement_43 : decode cX4_hoursStatement 43 = .ok (.return_, 1) := by decide +kernel
theorem dX4_fail_0 : decode cX4_fail 0 = .ok (.aload_n 0, 1) := by decide +kernel
theorem dX4_fail_1 : decode cX4_fail 1 = .ok (.iload_n 1, 1) := by decide +kernel
theorem dX4_fail_2 : decode cX4_fail 2 = .ok (.putfield 24, 3) := by decide +kernel
theorem dX4_fail_5 : decode cX4_fail 5 = .ok (.aload_n 0, 1) := by decide +kernel
theorem dX4_fail_6 : decode cX4_fail 6 = .ok (.aload_n 0, 1) := by decide +kernel
theorem dX4_fail_7 : decode cX4_fail 7 = .ok (.getfield 14, 3) := by decide +kernel
theorem dX4_fail_10 : decode cX4_fail 10 = .ok (.getfield 160, 3) := by decide +kernel
theorem dX4_fail_13 : decode cX4_fail 13 = .ok (.putfield 28, 3) := by decide +kernel
theorem dX4_fail_16 : decode cX4_fail 16 = .ok (.return_, 1) := by decide +kernel
theorem dX4_semicolon_0 : decode cX4_semicolon 0 = .ok (.aload_n 0, 1) := by decide +kernel
theorem dX4_semicolon_1 : decode cX4_semicolon 1 = .ok (.getfield 24, 3) := by decide +kernel
theorem dX4_semicolon_4 : decode cX4_semicolon 4 = .ok (.ifCond .ne 28, 3) := by decide +kernel
theorem dX4_semicolon_7 : decode cX4_semicolon 7 = .ok (.aload_n 0, 1) := by decide +kernel
theorem dX4_semicolon_8 : decode cX4_semicolon 8 = .ok (.getfield 14, 3) := by decide +kernel
theorem dX4_semicolon_11 : decode cX4_semicolon 11 = .ok (.invokevirtual 124, 3) := by decide +kernel
theorem dX4_semicolon_14 : decode cX4_semicolon 14 = .ok (.ifCond .eq 13, 3) := by decide +kernel
theorem dX4_semicolon_17 : decode cX4_semicolon 17 = .ok (.aload_n 0, 1) := by decide +kernel
theorem dX4_semicolon_18 : decode cX4_semicolon 18 = .ok (.getfield 14, 3) := by decide +kernel
theorem dX4_semicolon_21 : decode cX4_semicolon 21 = .ok (.invokevirtual 85, 3) := by decide +kernel
theorem dX4_semicolon_24 : decode cX4_semicolon 24 = .ok (.goto 8, 3) := by decide +kernel
theorem dX4_semicolon_27 : decode cX4_semicolon 27 = .ok (.aload_n 0, 1) := by decide +kernel
theorem dX4_semicolon_28 : decode cX4_semicolon 28 = .ok (.iconst 1, 1) := by decide +kernel
theorem dX4_semicolon_29 : decode cX4_semicolon 29 = .ok (.invokevirtual 50, 3) := by decide +kernel
theorem dX4_semicolon_32 : decode cX4_semicolon 32 = .ok (.return_, 1) := by decide +kernel
theorem dX4_number_0 : decode cX4_number 0 = .ok (.aload_n 0, 1) := by decide +kernel
theorem dX4_number_1 : decode cX4_number 1 = .ok (.getfield 24, 3) := by decide +kernel
theorem dX4_number_4 : decode cX4_number 4 = .ok (.ifCond .eq 5, 3) := by decide +kernel
theorem dX4_number_7 : decode cX4_number 7 = .ok (.iload_n 1, 1) := by decide +kernel
theorem dX4_number_8 : decode cX4_number 8 = .ok (.ireturn, 1) := by decide +kernel
theorem dX4_number_9 : decode cX4_number 9 = .ok (.aload_n 0, 1) := by decide +kernel
theorem dX4_number_10 : decode cX4_number 10 = .ok (.getfield 14, 3) := by decide +kernel
theorem dX4_number_13 : decode cX4_number 13 = .ok (.getfield 53, 3) := by decide +kernel
theorem dX4_number_16 : decode cX4_number 16 = .ok (.iconst 2, 1) := by decide +kernel
theorem dX4_number_17 : decode cX4_number 17 = .ok (.if_icmp .eq 10, 3) := by decide +kernel
theorem dX4_number_20 : decode cX4_number 20 = .ok (.aload_n 0, 1) := by decide +kernel
theorem dX4_number_21 : decode cX4_number 21 = .ok (.iconst 1, 1) := by decide +kernel
theorem dX4_number_22 : decode cX4_number 22 = .ok (.invokevirtual 50, 3) := by decide +kernel
theorem dX4_number_25 : decode cX4_number 25 = .ok (.iload_n 1, 1) := by decide +kernel
theorem dX4_number_26 : decode cX4_number 26 = .ok (.ireturn, 1) := by decide +kernel
theorem dX4_number_27 : decode cX4_number 27 = .ok (.aload_n 0, 1) := by decide +kernel
theorem dX4_number_28 : decode cX4_number 28 = .ok (.getfield 14, 3) := by decide +kernel
theorem dX4_number_31 : decode cX4_number 31 = .ok (.invokevirtual 163, 3) := by decide +kernel
theorem dX4_number_34 : decode cX4_number 34 = .ok (.istore_n 3, 1) := by decide +kernel
theorem dX4_number_35 : decode cX4_number 35 = .ok (.iload_n 3, 1) := by decide +kernel
theorem dX4_number_36 : decode cX4_number 36 = .ok (.iload_n 1, 1) := by decide +kernel
theorem dX4_number_37 : decode cX4_number 37 = .ok (.if_icmp .lt 8, 3) := by decide +kernel
theorem dX4_number_40 : decode cX4_number 40 = .ok (.iload_n 3, 1) := by decide +kernel
theorem dX4_number_41 : decode cX4_number 41 = .ok (.iload_n 2, 1) := by decide +kernel
theorem dX4_number_42 : decode cX4_number 42 = .ok (.if_icmp .le 11, 3) := by decide +kernel
theorem dX4_number_45 : decode cX4_number 45 = .ok (.aload_n 0, 1) := by decide +kernel
theorem dX4_number_46 : decode cX4_number 46 = .ok (.iconst 2, 1) := by decide +kernel
theorem dX4_number_47 : decode cX4_number 47 = .ok (.invokevirtual 50, 3) := by decide +kernel
theorem dX4_number_50 : decode cX4_number 50 = .ok (.goto 10, 3) := by decide +kernel
theorem dX4_number_53 : decode cX4_number 53 = .ok (.aload_n 0, 1) := by decide +kernel
theorem dX4_number_54 : decode cX4_number 54 = .ok (.getfield 14, 3) := by decide +kernel
theorem dX4_number_57 : decode cX4_number 57 = .ok (.invokevirtual 85, 3) := by decide +kernel
theorem dX4_number_60 : decode cX4_number 60 = .ok (.iload_n 3, 1) := by decide +kernel
theorem dX4_number_61 : decode cX4_number 61 = .ok (.ireturn, 1) := by decide +kernel
theorem dX4_kind_0 : decode cX4_kind 0 = .ok (.aload_n 0, 1) := by decide +kernel
theorem dX4_kind_1 : decode cX4_kind 1 = .ok (.getfield 24, 3) := by decide +kernel
theorem dX4_kind_4 : decode cX4_kind 4 = .ok (.ifCond .eq 5, 3) := by decide +kernel
theorem dX4_kind_7 : decode cX4_kind 7 = .ok (.iconst (-1), 1) := by decide +kernel
theorem dX4_kind_8 : decode cX4_kind 8 = .ok (.ireturn, 1) := by decide +kernel
theorem dX4_kind_9 : decode cX4_kind 9 = .ok (.aload_n 0, 1) := by decide +kernel
theorem dX4_kind_10 : decode cX4_kind 10 = .ok (.getfield 14, 3) := by decide +kernel
theorem dX4_kind_13 : decode cX4_kind 13 = .ok (.ldc 166, 2) := by decide +kernel
theorem dX4_kind_15 : decode cX4_kind 15 = .ok (.invokevirtual 42, 3) := by decide +kernel
theorem dX4_kind_18 : decode cX4_kind 18 = .ok (.ifCond .eq 7, 3) := by decide +kernel
theorem dX4_kind_21 : decode cX4_kind 21 = .ok (.iconst 0, 1) := by decide +kernel
theorem dX4_kind_22 : decode cX4_kind 22 = .ok (.goto 36, 3) := by decide +kernel
theorem dX4_kind_25 : decode cX4_kind 25 = .ok (.aload_n 0, 1) := by decide +kernel
theorem dX4_kind_26 : decode cX4_kind 26 = .ok (.getfield 14, 3) := by decide +kernel
theorem dX4_kind_29 : decode cX4_kind 29 = .ok (.ldc 168, 2) := by decide +kernel
theorem dX4_kind_31 : decode cX4_kind 31 = .ok (.invokevirtual 42, 3) := by decide +kernel
theorem dX4_kind_34 : decode cX4_kind 34 = .ok (.ifCond .eq 7, 3) := by decide +kernel
theorem dX4_kind_37 : decode cX4_kind 37 = .ok (.iconst 1, 1) := by decide +kernel
theorem dX4_kind_38 : decode cX4_kind 38 = .ok (.goto 20, 3) := by decide +kernel
theorem dX4_kind_41 : decode cX4_kind 41 = .ok (.aload_n 0, 1) := by decide +kernel
theorem dX4_kind_42 : decode cX4_kind 42 = .ok (.getfield 14, 3) := by decide +kernel
theorem dX4_kind_45 : decode cX4_kind 45 = .ok (.ldc 170, 2) := by decide +kernel
theorem dX4_kind_47 : decode cX4_kind 47 = .ok (.invokevirtual 42, 3) := by decide +kernel
theorem dX4_kind_50 : decode cX4_kind 50 = .ok (.ifCond .eq 7, 3) := by decide +kernel
theorem dX4_kind_53 : decode cX4_kind 53 = .ok (.iconst 2, 1) := by decide +kernel
theorem dX4_kind_54 : decode cX4_kind 54 = .ok (.goto 4, 3) := by decide +kernel
theorem dX4_kind_57 : decode cX4_kind 57 = .ok (.iconst (-1), 1) := by decide +kernel
theorem dX4_kind_58 : decode cX4_kind 58 = .ok (.istore_n 1, 1) := by decide +kernel
theorem dX4_kind_59 : decode cX4_kind 59 = .ok (.iload_n 1, 1) := by decide +kernel
theorem dX4_kind_60 : decode cX4_kind 60 = .ok (.iconst (-1), 1) := by decide +kernel
theorem dX4_kind_61 : decode cX4_kind 61 = .ok (.if_icmp .ne 11, 3) := by decide +kernel
theorem dX4_kind_64 : decode cX4_kind 64 = .ok (.aload_n 0, 1) := by decide +kernel
theorem dX4_kind_65 : decode cX4_kind 65 = .ok (.iconst 1, 1) := by decide +kernel
theorem dX4_kind_66 : decode cX4_kind 66 = .ok (.invokevirtual 50, 3) := by decide +kernel
theorem dX4_kind_69 : decode cX4_kind 69 = .ok (.goto 10, 3) := by decide +kernel
theorem dX4_kind_72 : decode cX4_kind 72 = .ok (.aload_n 0, 1) := by decide +kernel
theorem dX4_kind_73 : decode cX4_kind 73 = .ok (.getfield 14, 3) := by decide +kernel
theorem dX4_kind_76 : decode cX4_kind 76 = .ok (.invokevirtual 85, 3) := by decide +kernel
theorem dX4_kind_79 : decode cX4_kind 79 = .ok (.iload_n 1, 1) := by decide +kernel
theorem dX4_kind_80 : decode cX4_kind 80 = .ok (.ireturn, 1) := by decide +kernel
theorem dX4_newName_0 : decode cX4_newName 0 = .ok (.aload_n 0, 1) := by decide +kernel
theorem dX4_newName_1 : decode cX4_newName 1 = .ok (.getfield 14, 3) := by decide +kernel
theorem dX4_newName_4 : decode cX4_newName 4 = .ok (.invokevirtual 172, 3) := by decide +kernel
theorem dX4_newName_7 : decode cX4_newName 7 = .ok (.istore_n 2, 1) := by decide +kernel
theorem dX4_newName_8 : decode cX4_newName 8 = .ok (.aload_n 0, 1) := by decide +kernel
theorem dX4_newName_9 : decode cX4_newName 9 = .ok (.getfield 14, 3) := by decide +kernel
theorem dX4_newName_12 : decode cX4_newName 12 = .ok (.getfield 53, 3) := by decide +kernel
theorem dX4_newName_15 : decode cX4_newName 15 = .ok (.iconst 1, 1) := by decide +kernel
theorem dX4_newName_16 : decode cX4_newName 16 = .ok (.if_icmp .eq 11, 3) := by decide +kernel
theorem dX4_newName_19 : decode cX4_newName 19 = .ok (.aload_n 0, 1) := by decide +kernel
theorem dX4_newName_20 : decode cX4_newName 20 = .ok (.iconst 1, 1) := by decide +kernel
theorem dX4_newName_21 : decode cX4_newName 21 = .ok (.invokevirtual 50, 3) := by decide +kernel
theorem dX4_newName_24 : decode cX4_newName 24 = .ok (.goto 39, 3) := by decide +kernel
theorem dX4_newName_27 : decode cX4_newName 27 = .ok (.iload_n 2, 1) := by decide +kernel
theorem dX4_newName_28 : decode cX4_newName 28 = .ok (.iconst (-1), 1) := by decide +kernel
theorem dX4_newName_29 : decode cX4_newName 29 = .ok (.if_icmp .ne 11, 3) := by decide +kernel
theorem dX4_newName_32 : decode cX4_newName 32 = .ok (.aload_n 0, 1) := by decide +kernel
theorem dX4_newName_33 : decode cX4_newName 33 = .ok (.iconst 2, 1) := by decide +kernel
theorem dX4_newName_34 : decode cX4_newName 34 = .ok (.invokevirtual 50, 3) := by decide +kernel
theorem dX4_newName_37 : decode cX4_newName 37 = .ok (.goto 26, 3) := by decide +kernel
theorem dX4_newName_40 : decode cX4_newName 40 = .ok (.aload_n 1, 1) := by decide +kernel
theorem dX4_newName_41 : decode cX4_newName 41 = .ok (.iload_n 2, 1) := by decide +kernel
theorem dX4_newName_42 : decode cX4_newName 42 = .ok (.invokevirtual 175, 3) := by decide +kernel
theorem dX4_newName_45 : decode cX4_newName 45 = .ok (.ifCond .eq 11, 3) := by decide +kernel
theorem dX4_newName_48 : decode cX4_newName 48 = .ok (.aload_n 0, 1) := by decide +kernel
theorem dX4_newName_49 : decode cX4_newName 49 = .ok (.iconst 3, 1) := by decide +kernel
theorem dX4_newName_50 : decode cX4_newName 50 = .ok (.invokevirtual 50, 3) := by decide +kernel
theorem dX4_newName_53 : decode cX4_newName 53 = .ok (.goto 10, 3) := by decide +kernel
theorem dX4_newName_56 : decode cX4_newName 56 = .ok (.aload_n 0, 1) := by decide +kernel
theorem dX4_newName_57 : decode cX4_newName 57 = .ok (.getfield 14, 3) := by decide +kernel
theorem dX4_newName_60 : decode cX4_newName 60 = .ok (.invokevirtual 85, 3) := by decide +kernel
theorem dX4_newName_63 : decode cX4_newName 63 = .ok (.iload_n 2, 1) := by decide +kernel
theorem dX4_newName_64 : decode cX4_newName 64 = .ok (.ireturn, 1) := by decide +kernel
theorem dX4_knownBaker_0 : decode cX4_knownBaker 0 = .ok (.aload_n 1, 1) := by decide +kernel
theorem dX4_knownBaker_1 : decode cX4_knownBaker 1 = .ok (.getfield 179, 3) := by decide +kernel
theorem dX4_knownBaker_4 : decode cX4_knownBaker 4 = .ok (.aload_n 1, 1) := by decide +kernel
theorem dX4_knownBaker_5 : decode cX4_knownBaker 5 = .ok (.getfield 103, 3) := by decide +kernel
theorem dX4_knownBaker_8 : decode cX4_knownBaker 8 = .ok (.aload_n 0, 1) := by decide +kernel
theorem dX4_knownBaker_9 : decode cX4_knownBaker 9 = .ok (.getfield 14, 3) := by decide +kernel
theorem dX4_knownBaker_12 : decode cX4_knownBaker 12 = .ok (.invokevirtual 172, 3) := by decide +kernel
theorem dX4_knownBaker_15 : decode cX4_knownBaker 15 = .ok (.invokestatic 181, 3) := by decide +kernel
theorem dX4_knownBaker_18 : decode cX4_knownBaker 18 = .ok (.istore_n 2, 1) := by decide +kernel
theorem dX4_knownBaker_19 : decode cX4_knownBaker 19 = .ok (.aload_n 0, 1) := by decide +kernel
theorem dX4_knownBaker_20 : decode cX4_knownBaker 20 = .ok (.getfield 14, 3) := by decide +kernel
theorem dX4_knownBaker_23 : decode cX4_knownBaker 23 = .ok (.getfield 53, 3) := by decide +kernel
theorem dX4_knownBaker_26 : decode cX4_knownBaker 26 = .ok (.iconst 1, 1) := by decide +kernel
theorem dX4_knownBaker_27 : decode cX4_knownBaker 27 = .ok (.if_icmp .eq 11, 3) := by decide +kernel
theorem dX4_knownBaker_30 : decode cX4_knownBaker 30 = .ok (.aload_n 0, 1) := by decide +kernel
theorem dX4_knownBaker_31 : decode cX4_knownBaker 31 = .ok (.iconst 1, 1) := by decide +kernel
theorem dX4_knownBaker_32 : decode cX4_knownBaker 32 = .ok (.invokevirtual 50, 3) := by decide +kernel
theorem dX4_knownBaker_35 : decode cX4_knownBaker 35 = .ok (.goto 23, 3) := by decide +kernel
theorem dX4_knownBaker_38 : decode cX4_knownBaker 38 = .ok (.iload_n 2, 1) := by decide +kernel
theorem dX4_knownBaker_39 : decode cX4_knownBaker 39 = .ok (.iconst (-1), 1) := by decide +kernel
theorem dX4_knownBaker_40 : decode cX4_knownBaker 40 = .ok (.if_icmp .ne 11, 3) := by decide +kernel
theorem dX4_knownBaker_43 : decode cX4_knownBaker 43 = .ok (.aload_n 0, 1) := by decide +kernel
theorem dX4_knownBaker_44 : decode cX4_knownBaker 44 = .ok (.iconst 4, 1) := by decide +kernel
theorem dX4_knownBaker_45 : decode cX4_knownBaker 45 = .ok (.invokevirtual 50, 3) := by decide +kernel
theorem dX4_knownBaker_48 : decode cX4_knownBaker 48 = .ok (.goto 10, 3) := by decide +kernel
theorem dX4_knownBaker_51 : decode cX4_knownBaker 51 = .ok (.aload_n 0, 1) := by decide +kernel
theorem dX4_knownBaker_52 : decode cX4_knownBaker 52 = .ok (.getfield 14, 3) := by decide +kernel
theorem dX4_knownBaker_55 : decode cX4_knownBaker 55 = .ok (.invokevirtual 85, 3) := by decide +kernel
theorem dX4_knownBaker_58 : decode cX4_knownBaker 58 = .ok (.iload_n 2, 1) := by decide +kernel
theorem dX4_knownBaker_59 : decode cX4_knownBaker 59 = .ok (.ireturn, 1) := by decide +kernel
theorem dX5_init_0 : decode cX5_init 0 = .ok (.aload_n 0, 1) := by decide +kernel
theorem dX5_init_1 : decode cX5_init 1 = .ok (.invokespecial 3, 3) := by decide +kernel
theorem dX5_init_4 : decode cX5_init 4 = .ok (.aload_n 0, 1) := by decide +kernel
theorem dX5_init_5 : decode cX5_init 5 = .ok (.iconst 3, 1) := by decide +kernel
theorem dX5_init_6 : decode cX5_init 6 = .ok (.newarray .int, 2) := by decide +kernel
theorem dX5_init_8 : decode cX5_init 8 = .ok (.putfield 9, 3) := by decide +kernel
theorem dX5_init_11 : decode cX5_init 11 = .ok (.aload_n 0, 1) := by decide +kernel
theorem dX5_init_12 : decode cX5_init 12 = .ok (.new 15, 3) := by decide +kernel
theorem dX5_init_15 : decode cX5_init 15 = .ok (.dup, 1) := by decide +kernel
theorem dX5_init_16 : decode cX5_init 16 = .ok (.invokespecial 17, 3) := by decide +kernel
theorem dX5_init_19 : decode cX5_init 19 = .ok (.putfield 18, 3) := by decide +kernel
theorem dX5_init_22 : decode cX5_init 22 = .ok (.aload_n 0, 1) := by decide +kernel
theorem dX5_init_23 : decode cX5_init 23 = .ok (.new 22, 3) := by decide +kernel
theorem dX5_init_26 : decode cX5_init 26 = .ok (.dup, 1) := by decide +kernel
theorem dX5_init_27 : decode cX5_init 27 = .ok (.invokespecial 24, 3) := by decide +kernel
theorem dX5_init_30 : decode cX5_init 30 = .ok (.putfield 25, 3) := by decide +kernel
theorem dX5_init_33 : decode cX5_init 33 = .ok (.aload_n 0, 1) := by decide +kernel
theorem dX5_init_34 : decode cX5_init 34 = .ok (.new 29, 3) := by decide +kernel
theorem dX5_init_37 : decode cX5_init 37 = .ok (.dup, 1) := by decide +kernel
theorem dX5_init_38 : decode cX5_init 38 = .ok (.invokespecial 31, 3) := by decide +kernel
theorem dX5_init_41 : decode cX5_init 41 = .ok (.putfield 32, 3) := by decide +kernel
theorem dX5_init_44 : decode cX5_init 44 = .ok (.aload_n 0, 1) := by decide +kernel
theorem dX5_init_45 : decode cX5_init 45 = .ok (.new 36, 3) := by decide +kernel
theorem dX5_init_48 : decode cX5_init 48 = .ok (.dup, 1) := by decide +kernel
theorem dX5_init_49 : decode cX5_init 49 = .ok (.invokespecial 38, 3) := by decide +kernel
theorem dX5_init_52 : decode cX5_init 52 = .ok (.putfield 39, 3) := by decide +kernel
theorem dX5_init_55 : decode cX5_init 55 = .ok (.return_, 1) := by decide +kernel
theorem dX5_clear_0 : decode cX5_clear 0 = .ok (.aload_n 0, 1) := by decide +kernel
theorem dX5_clear_1 : decode cX5_clear 1 = .ok (.getfield 18, 3) := by decide +kernel
theorem dX5_clear_4 : decode cX5_clear 4 = .ok (.iconst 0, 1) := by decide +kernel
theorem dX5_clear_5 : decode cX5_clear 5 = .ok (.putfield 43, 3) := by decide +kernel
theorem dX5_clear_8 : decode cX5_clear 8 = .ok (.aload_n 0, 1) := by decide +kernel
theorem dX5_clear_9 : decode cX5_clear 9 = .ok (.getfield 25, 3) := by decide +kernel
theorem dX5_clear_12 : decode cX5_clear 12 = .ok (.iconst 0, 1) := by decide +kernel
theorem dX5_clear_13 : decode cX5_clear 13 = .ok (.putfield 47, 3) := by decide +kernel
theorem dX5_clear_16 : decode cX5_clear 16 = .ok (.aload_n 0, 1) := by decide +kernel
theorem dX5_clear_17 : decode cX5_clear 17 = .ok (.getfield 32, 3) := by decide +kernel
theorem dX5_clear_20 : decode cX5_clear 20 = .ok (.iconst 0, 1) := by decide +kernel
theorem dX5_clear_21 : decode cX5_clear 21 = .ok (.putfield 48, 3) := by decide +kernel
theorem dX5_clear_24 : decode cX5_clear 24 = .ok (.aload_n 0, 1) := by decide +kernel
theorem dX5_clear_25 : decode cX5_clear 25 = .ok (.getfield 32, 3) := by decide +kernel
theorem dX5_clear_28 : decode cX5_clear 28 = .ok (.iconst 0, 1) := by decide +kernel
theorem dX5_clear_29 : decode cX5_clear 29 = .ok (.putfield 49, 3) := by decide +kernel
theorem dX5_clear_32 : decode cX5_clear 32 = .ok (.aload_n 0, 1) := by decide +kernel
theorem dX5_clear_33 : decode cX5_clear 33 = .ok (.getfield 39, 3) := by decide +kernel
theorem dX5_clear_36 : decode cX5_clear 36 = .ok (.iconst 0, 1) := by decide +kernel
theorem dX5_clear_37 : decode cX5_clear 37 = .ok (.putfield 52, 3) := by decide +kernel
theorem dX5_clear_40 : decode cX5_clear 40 = .ok (.aload_n 0, 1) := by decide +kernel
theorem dX5_clear_41 : decode cX5_clear 41 = .ok (.iconst 0, 1) := by decide +kernel
theorem dX5_clear_42 : decode cX5_clear 42 = .ok (.putfield 53, 3) := by decide +kernel
theorem dX5_clear_45 : decode cX5_clear 45 = .ok (.aload_n 0, 1) := by decide +kernel
theorem dX5_clear_46 : decode cX5_clear 46 = .ok (.iconst 0, 1) := by decide +kernel
theorem dX5_clear_47 : decode cX5_clear 47 = .ok (.putfield 56, 3) := by decide +kernel
theorem dX5_clear_50 : decode cX5_clear 50 = .ok (.aload_n 0, 1) := by decide +kernel
theorem dX5_clear_51 : decode cX5_clear 51 = .ok (.iconst 0, 1) := by decide +kernel
theorem dX5_clear_52 : decode cX5_clear 52 = .ok (.putfield 59, 3) := by decide +kernel
theorem dX5_clear_55 : decode cX5_clear 55 = .ok (.aload_n 0, 1) := by decide +kernel
theorem dX5_clear_56 : decode cX5_clear 56 = .ok (.iconst 0, 1) := by decide +kernel
theorem dX5_clear_57 : decode cX5_clear 57 = .ok (.putfield 62, 3) := by decide +kernel
theorem dX5_clear_60 : decode cX5_clear 60 = .ok (.aload_n 0, 1) := by decide +kernel
theorem dX5_clear_61 : decode cX5_clear 61 = .ok (.iconst 0, 1) := by decide +kernel
theorem dX5_clear_62 : decode cX5_clear 62 = .ok (.putfield 65, 3) := by decide +kernel
theorem dX5_clear_65 : decode cX5_clear 65 = .ok (.aload_n 0, 1) := by decide +kernel
theorem dX5_clear_66 : decode cX5_clear 66 = .ok (.iconst 0, 1) := by decide +kernel
theorem dX5_clear_67 : decode cX5_clear 67 = .ok (.putfield 68, 3) := by decide +kernel
theorem dX5_clear_70 : decode cX5_clear 70 = .ok (.aload_n 0, 1) := by decide +kernel
theorem dX5_clear_71 : decode cX5_clear 71 = .ok (.iconst 0, 1) := by decide +kernel
theorem dX5_clear_72 : decode cX5_clear 72 = .ok (.putfield 71, 3) := by decide +kernel
theorem dX5_clear_75 : decode cX5_clear 75 = .ok (.aload_n 0, 1) := by decide +kernel
theorem dX5_clear_76 : decode cX5_clear 76 = .ok (.iconst 0, 1) := by decide +kernel
theorem dX5_clear_77 : decode cX5_clear 77 = .ok (.putfield 74, 3) := by decide +kernel
theorem dX5_clear_80 : decode cX5_clear 80 = .ok (.return_, 1) := by decide +kernel
theorem dX5_copyFrom_0 : decode cX5_copyFrom 0 = .ok (.aload_n 1, 1) := by decide +kernel
theorem dX5_copyFrom_1 : decode cX5_copyFrom 1 = .ok (.getfield 9, 3) := by decide +kernel
theorem dX5_copyFrom_4 : decode cX5_copyFrom 4 = .ok (.aload_n 0, 1) := by decide +kernel
theorem dX5_copyFrom_5 : decode cX5_copyFrom 5 = .ok (.getfield 9, 3) := by decide +kernel
theorem dX5_copyFrom_8 : decode cX5_copyFrom 8 = .ok (.invokestatic 77, 3) := by decide +kernel
theorem dX5_copyFrom_11 : decode cX5_copyFrom 11 = .ok (.aload_n 0, 1) := by decide +kernel
theorem dX5_copyFrom_12 : decode cX5_copyFrom 12 = .ok (.getfield 18, 3) := by decide +kernel
theorem dX5_copyFrom_15 : decode cX5_copyFrom 15 = .ok (.aload_n 1, 1) := by decide +kernel
theorem dX5_copyFrom_16 : decode cX5_copyFrom 16 = .ok (.getfield 18, 3) := by decide +kernel
theorem dX5_copyFrom_19 : decode cX5_copyFrom 19 = .ok (.invokevirtual 81, 3) := by decide +kernel
theorem dX5_copyFrom_22 : decode cX5_copyFrom 22 = .ok (.aload_n 0, 1) := by decide +kernel
theorem dX5_copyFrom_23 : decode cX5_copyFrom 23 = .ok (.getfield 25, 3) := by decide +kernel
theorem dX5_copyFrom_26 : decode cX5_copyFrom 26 = .ok (.aload_n 1, 1) := by decide +kernel
theorem dX5_copyFrom_27 : decode cX5_copyFrom 27 = .ok (.getfield 25, 3) := by decide +kernel
theorem dX5_copyFrom_30 : decode cX5_copyFrom 30 = .ok (.invokevirtual 85, 3) := by decide +kernel
theorem dX5_copyFrom_33 : decode cX5_copyFrom 33 = .ok (.aload_n 0, 1) := by decide +kernel
theorem dX5_copyFrom_34 : decode cX5_copyFrom 34 = .ok (.getfield 32, 3) := by decide +kernel
theorem dX5_copyFrom_37 : decode cX5_copyFrom 37 = .ok (.aload_n 1, 1) := by decide +kernel
theorem dX5_copyFrom_38 : decode cX5_copyFrom 38 = .ok (.getfield 32, 3) := by decide +kernel
theorem dX5_copyFrom_41 : decode cX5_copyFrom 41 = .ok (.invokevirtual 88, 3) := by decide +kernel
theorem dX5_copyFrom_44 : decode cX5_copyFrom 44 = .ok (.aload_n 0, 1) := by decide +kernel
theorem dX5_copyFrom_45 : decode cX5_copyFrom 45 = .ok (.getfield 39, 3) := by decide +kernel
theorem dX5_copyFrom_48 : decode cX5_copyFrom 48 = .ok (.aload_n 1, 1) := by decide +kernel
theorem dX5_copyFrom_49 : decode cX5_copyFrom 49 = .ok (.getfield 39, 3) := by decide +kernel
theorem dX5_copyFrom_52 : decode cX5_copyFrom 52 = .ok (.invokevirtual 91, 3) := by decide +kernel
theorem dX5_copyFrom_55 : decode cX5_copyFrom 55 = .ok (.aload_n 0, 1) := by decide +kernel
theorem dX5_copyFrom_56 : decode cX5_copyFrom 56 = .ok (.aload_n 1, 1) := by decide +kernel
theorem dX5_copyFrom_57 : decode cX5_copyFrom 57 = .ok (.getfield 53, 3) := by decide +kernel
theorem dX5_copyFrom_60 : decode cX5_copyFrom 60 = .ok (.putfield 53, 3) := by decide +kernel
theorem dX5_copyFrom_63 : decode cX5_copyFrom 63 = .ok (.aload_n 0, 1) := by decide +kernel
theorem dX5_copyFrom_64 : decode cX5_copyFrom 64 = .ok (.aload_n 1, 1) := by decide +kernel
theorem dX5_copyFrom_65 : decode cX5_copyFrom 65 = .ok (.getfield 56, 3) := by decide +kernel
theorem dX5_copyFrom_68 : decode cX5_copyFrom 68 = .ok (.putfield 56, 3) := by decide +kernel
theorem dX5_copyFrom_71 : decode cX5_copyFrom 71 = .ok (.aload_n 0, 1) := by decide +kernel
theorem dX5_copyFrom_72 : decode cX5_copyFrom 72 = .ok (.aload_n 1, 1) := by decide +kernel
theorem dX5_copyFrom_73 : decode cX5_copyFrom 73 = .ok (.getfield 59, 3) := by decide +kernel
theorem dX5_copyFrom_76 : decode cX5_copyFrom 76 = .ok (.putfield 59, 3) := by decide +kernel
theorem dX5_copyFrom_79 : decode cX5_copyFrom 79 = .ok (.aload_n 0, 1) := by decide +kernel
theorem dX5_copyFrom_80 : decode cX5_copyFrom 80 = .ok (.aload_n 1, 1) := by decide +kernel
theorem dX5_copyFrom_81 : decode cX5_copyFrom 81 = .ok (.getfield 62, 3) := by decide +kernel
theorem dX5_copyFrom_84 : decode cX5_copyFrom 84 = .ok (.putfield 62, 3) := by decide +kernel
theorem dX5_copyFrom_87 : decode cX5_copyFrom 87 = .ok (.aload_n 0, 1) := by decide +kernel
theorem dX5_copyFrom_88 : decode cX5_copyFrom 88 = .ok (.aload_n 1, 1) := by decide +kernel
theorem dX5_copyFrom_89 : decode cX5_copyFrom 89 = .ok (.getfield 65, 3) := by decide +kernel
theorem dX5_copyFrom_92 : decode cX5_copyFrom 92 = .ok (.putfield 65, 3) := by decide +kernel
theorem dX5_copyFrom_95 : decode cX5_copyFrom 95 = .ok (.aload_n 0, 1) := by decide +kernel
theorem dX5_copyFrom_96 : decode cX5_copyFrom 96 = .ok (.aload_n 1, 1) := by decide +kernel
theorem dX5_copyFrom_97 : decode cX5_copyFrom 97 = .ok (.getfield 68, 3) := by decide +kernel
theorem dX5_copyFrom_100 : decode cX5_copyFrom 100 = .ok (.putfield 68, 3) := by decide +kernel
theorem dX5_copyFrom_103 : decode cX5_copyFrom 103 = .ok (.aload_n 0, 1) := by decide +kernel
theorem dX5_copyFrom_104 : decode cX5_copyFrom 104 = .ok (.aload_n 1, 1) := by decide +kernel
theorem dX5_copyFrom_105 : decode cX5_copyFrom 105 = .ok (.getfield 71, 3) := by decide +kernel
theorem dX5_copyFrom_108 : decode cX5_copyFrom 108 = .ok (.putfield 71, 3) := by decide +kernel
theorem dX5_copyFrom_111 : decode cX5_copyFrom 111 = .ok (.aload_n 0, 1) := by decide +kernel
theorem dX5_copyFrom_112 : decode cX5_copyFrom 112 = .ok (.aload_n 1, 1) := by decide +kernel
theorem dX5_copyFrom_113 : decode cX5_copyFrom 113 = .ok (.getfield 74, 3) := by decide +kernel
theorem dX5_copyFrom_116 : decode cX5_copyFrom 116 = .ok (.putfield 74, 3) := by decide +kernel
theorem dX5_copyFrom_119 : decode cX5_copyFrom 119 = .ok (.return_, 1) := by decide +kernel
theorem dX5_baseOf_0 : decode cX5_baseOf 0 = .ok (.iload_n 1, 1) := by decide +kernel
theorem dX5_baseOf_1 : decode cX5_baseOf 1 = .ok (.ifCond .lt 17, 3) := by decide +kernel
theorem dX5_baseOf_4 : decode cX5_baseOf 4 = .ok (.iload_n 1, 1) := by decide +kernel
theorem dX5_baseOf_5 : decode cX5_baseOf 5 = .ok (.iconst 3, 1) := by decide +kernel
theorem dX5_baseOf_6 : decode cX5_baseOf 6 = .ok (.if_icmp .ge 12, 3) := by decide +kernel
theorem dX5_baseOf_9 : decode cX5_baseOf 9 = .ok (.aload_n 0, 1) := by decide +kernel
theorem dX5_baseOf_10 : decode cX5_baseOf 10 = .ok (.getfield 9, 3) := by decide +kernel
theorem dX5_baseOf_13 : decode cX5_baseOf 13 = .ok (.iload_n 1, 1) := by decide +kernel
theorem dX5_baseOf_14 : decode cX5_baseOf 14 = .ok (.iaload, 1) := by decide +kernel
theorem dX5_baseOf_15 : decode cX5_baseOf 15 = .ok (.goto 4, 3) := by decide +kernel
theorem dX5_baseOf_18 : decode cX5_baseOf 18 = .ok (.iconst 0, 1) := by decide +kernel
theorem dX5_baseOf_19 : decode cX5_baseOf 19 = .ok (.ireturn, 1) := by decide +kernel
theorem dX5_ageOf_0 : decode cX5_ageOf 0 = .ok (.iload_n 1, 1) := by decide +kernel
theorem dX5_ageOf_1 : decode cX5_ageOf 1 = .ok (.ifCond .lt 31, 3) := by decide +kernel
theorem dX5_ageOf_4 : decode cX5_ageOf 4 = .ok (.iload_n 1, 1) := by decide +kernel
theorem dX5_ageOf_5 : decode cX5_ageOf 5 = .ok (.aload_n 0, 1) := by decide +kernel
theorem dX5_ageOf_6 : decode cX5_ageOf 6 = .ok (.getfield 25, 3) := by decide +kernel
theorem dX5_ageOf_9 : decode cX5_ageOf 9 = .ok (.getfield 47, 3) := by decide +kernel
theorem dX5_ageOf_12 : decode cX5_ageOf 12 = .ok (.if_icmp .ge 20, 3) := by decide +kernel
theorem dX5_ageOf_15 : decode cX5_ageOf 15 = .ok (.aload_n 0, 1) := by decide +kernel
theorem dX5_ageOf_16 : decode cX5_ageOf 16 = .ok (.getfield 53, 3) := by decide +kernel
theorem dX5_ageOf_19 : decode cX5_ageOf 19 = .ok (.aload_n 0, 1) := by decide +kernel
theorem dX5_ageOf_20 : decode cX5_ageOf 20 = .ok (.getfield 25, 3) := by decide +kernel
theorem dX5_ageOf_23 : decode cX5_ageOf 23 = .ok (.getfield 94, 3) := by decide +kernel
theorem dX5_ageOf_26 : decode cX5_ageOf 26 = .ok (.iload_n 1, 1) := by decide +kernel
theorem dX5_ageOf_27 : decode cX5_ageOf 27 = .ok (.iaload, 1) := by decide +kernel
theorem dX5_ageOf_28 : decode cX5_ageOf 28 = .ok (.isub, 1) := by decide +kernel
theorem dX5_ageOf_29 : decode cX5_ageOf 29 = .ok (.goto 4, 3) := by decide +kernel
theorem dX5_ageOf_32 : decode cX5_ageOf 32 = .ok (.iconst 0, 1) := by decide +kernel
theorem dX5_ageOf_33 : decode cX5_ageOf 33 = .ok (.ireturn, 1) := by decide +kernel
theorem dX5_reserveOf_0 : decode cX5_reserveOf 0 = .ok (.iload_n 1, 1) := by decide +kernel
theorem dX5_reserveOf_1 : decode cX5_reserveOf 1 = .ok (.ifCond .lt 14, 3) := by decide +kernel
theorem dX5_reserveOf_4 : decode cX5_reserveOf 4 = .ok (.iload_n 1, 1) := by decide +kernel
theorem dX5_reserveOf_5 : decode cX5_reserveOf 5 = .ok (.aload_n 0, 1) := by decide +kernel
theorem dX5_reserveOf_6 : decode cX5_reserveOf 6 = .ok (.getfield 25, 3) := by decide +kernel
theorem dX5_reserveOf_9 : decode cX5_reserveOf 9 = .ok (.getfield 47, 3) := by decide +kernel
theorem dX5_reserveOf_12 : decode cX5_reserveOf 12 = .ok (.if_icmp .lt 5, 3) := by decide +kernel
theorem dX5_reserveOf_15 : decode cX5_reserveOf 15 = .ok (.iconst 0, 1) := by decide +kernel
theorem dX5_reserveOf_16 : decode cX5_reserveOf 16 = .ok (.ireturn, 1) := by decide +kernel
theorem dX5_reserveOf_17 : decode cX5_reserveOf 17 = .ok (.aload_n 0, 1) := by decide +kernel
theorem dX5_reserveOf_18 : decode cX5_reserveOf 18 = .ok (.getfield 25, 3) := by decide +kernel
theorem dX5_reserveOf_21 : decode cX5_reserveOf 21 = .ok (.getfield 97, 3) := by decide +kernel
theorem dX5_reserveOf_24 : decode cX5_reserveOf 24 = .ok (.iload_n 1, 1) := by decide +kernel
theorem dX5_reserveOf_25 : decode cX5_reserveOf 25 = .ok (.iaload, 1) := by decide +kernel
theorem dX5_reserveOf_26 : decode cX5_reserveOf 26 = .ok (.istore_n 2, 1) := by decide +kernel
theorem dX5_reserveOf_27 : decode cX5_reserveOf 27 = .ok (.iload_n 2, 1) := by decide +kernel
theorem dX5_reserveOf_28 : decode cX5_reserveOf 28 = .ok (.aload_n 0, 1) := by decide +kernel
theorem dX5_reserveOf_29 : decode cX5_reserveOf 29 = .ok (.iload_n 2, 1) := by decide +kernel
theorem dX5_reserveOf_30 : decode cX5_reserveOf 30 = .ok (.invokevirtual 100, 3) := by decide +kernel
theorem dX5_reserveOf_33 : decode cX5_reserveOf 33 = .ok (.aload_n 0, 1) := by decide +kernel
theorem dX5_reserveOf_34 : decode cX5_reserveOf 34 = .ok (.getfield 53, 3) := by decide +kernel
theorem dX5_reserveOf_37 : decode cX5_reserveOf 37 = .ok (.aload_n 0, 1) := by decide +kernel
theorem dX5_reserveOf_38 : decode cX5_reserveOf 38 = .ok (.getfield 25, 3) := by decide +kernel
theorem dX5_reserveOf_41 : decode cX5_reserveOf 41 = .ok (.getfield 94, 3) := by decide +kernel
theorem dX5_reserveOf_44 : decode cX5_reserveOf 44 = .ok (.iload_n 1, 1) := by decide +kernel
theorem dX5_reserveOf_45 : decode cX5_reserveOf 45 = .ok (.iaload, 1) := by decide +kernel
theorem dX5_reserveOf_46 : decode cX5_reserveOf 46 = .ok (.isub, 1) := by decide +kernel
theorem dX5_reserveOf_47 : decode cX5_reserveOf 47 = .ok (.invokestatic 104, 3) := by decide +kernel
theorem dX5_reserveOf_50 : decode cX5_reserveOf 50 = .ok (.ireturn, 1) := by decide +kernel
theorem dX5_hasName_0 : decode cX5_hasName 0 = .ok (.aload_n 0, 1) := by decide +kernel
theorem dX5_hasName_1 : decode cX5_hasName 1 = .ok (.getfield 18, 3) := by decide +kernel
theorem dX5_hasName_4 : decode cX5_hasName 4 = .ok (.getfield 108, 3) := by decide +kernel
theorem dX5_hasName_7 : decode cX5_hasName 7 = .ok (.aload_n 0, 1) := by decide +kernel
theorem dX5_hasName_8 : decode cX5_hasName 8 = .ok (.getfield 18, 3) := by decide +kernel
theorem dX5_hasName_11 : decode cX5_hasName 11 = .ok (.getfield 43, 3) := by decide +kernel
theorem dX5_hasName_14 : decode cX5_hasName 14 = .ok (.iload_n 1, 1) := by decide +kernel
theorem dX5_hasName_15 : decode cX5_hasName 15 = .ok (.invokestatic 111, 3) := by decide +kernel
theorem dX5_hasName_18 : decode cX5_hasName 18 = .ok (.iconst (-1), 1) := by decide +kernel
theorem dX5_hasName_19 : decode cX5_hasName 19 = .ok (.if_icmp .ne 25, 3) := by decide +kernel
theorem dX5_hasName_22 : decode cX5_hasName 22 = .ok (.aload_n 0, 1) := by decide +kernel
theorem dX5_hasName_23 : decode cX5_hasName 23 = .ok (.getfield 32, 3) := by decide +kernel
theorem dX5_hasName_26 : decode cX5_hasName 26 = .ok (.getfield 115, 3) := by decide +kernel
theorem dX5_hasName_29 : decode cX5_hasName 29 = .ok (.aload_n 0, 1) := by decide +kernel
theorem dX5_hasName_30 : decode cX5_hasName 30 = .ok (.getfield 32, 3) := by decide +kernel
theorem dX5_hasName_33 : decode cX5_hasName 33 = .ok (.getfield 48, 3) := by decide +kernel
theorem dX5_hasName_36 : decode cX5_hasName 36 = .ok (.iload_n 1, 1) := by decide +kernel
theorem dX5_hasName_37 : decode cX5_hasName 37 = .ok (.invokestatic 111, 3) := by decide +kernel
theorem dX5_hasName_40 : decode cX5_hasName 40 = .ok (.iconst (-1), 1) := by decide +kernel
theorem dX5_hasName_41 : decode cX5_hasName 41 = .ok (.if_icmp .eq 7, 3) := by decide +kernel
theorem dX5_hasName_44 : decode cX5_hasName 44 = .ok (.iconst 1, 1) := by decide +kernel
theorem dX5_hasName_45 : decode cX5_hasName 45 = .ok (.goto 4, 3) := by decide +kernel
theorem dX5_hasName_48 : decode cX5_hasName 48 = .ok (.iconst 0, 1) := by decide +kernel
theorem dX5_hasName_49 : decode cX5_hasName 49 = .ok (.ireturn, 1) := by decide +kernel
theorem dX5_refusal_0 : decode cX5_refusal 0 = .ok (.iload_n 1, 1) := by decide +kernel
theorem dX5_refusal_1 : decode cX5_refusal 1 = .ok (.ifCond .lt 27, 3) := by decide +kernel
theorem dX5_refusal_4 : decode cX5_refusal 4 = .ok (.iload_n 1, 1) := by decide +kernel
theorem dX5_refusal_5 : decode cX5_refusal 5 = .ok (.aload_n 0, 1) := by decide +kernel
theorem dX5_refusal_6 : decode cX5_refusal 6 = .ok (.getfield 18, 3) := by decide +kernel
theorem dX5_refusal_9 : decode cX5_refusal 9 = .ok (.getfield 43, 3) := by decide +kernel
theorem dX5_refusal_12 : decode cX5_refusal 12 = .ok (.if_icmp .ge 16, 3) := by decide +kernel
theorem dX5_refusal_15 : decode cX5_refusal 15 = .ok (.aload_n 0, 1) := by decide +kernel
theorem dX5_refusal_16 : decode cX5_refusal 16 = .ok (.getfield 18, 3) := by decide +kernel
theorem dX5_refusal_19 : decode cX5_refusal 19 = .ok (.getfield 116, 3) := by decide +kernel
theorem dX5_refusal_22 : decode cX5_refusal 22 = .ok (.iload_n 1, 1) := by decide +kernel
theorem dX5_refusal_23 : decode cX5_refusal 23 = .ok (.iaload, 1) := by decide +kernel
theorem dX5_refusal_24 : decode cX5_refusal 24 = .ok (.iconst (-1), 1) := by decide +kernel
theorem dX5_refusal_25 : decode cX5_refusal 25 = .ok (.if_icmp .eq 5, 3) := by decide +kernel
theorem dX5_refusal_28 : decode cX5_refusal 28 = .ok (.iconst 1, 1) := by decide +kernel
theorem dX5_refusal_29 : decode cX5_refusal 29 = .ok (.ireturn, 1) := by decide +kernel
theorem dX5_refusal_30 : decode cX5_refusal 30 = .ok (.aload_n 0, 1) := by decide +kernel
theorem dX5_refusal_31 : decode cX5_refusal 31 = .ok (.getfield 25, 3) := by decide +kernel
theorem dX5_refusal_34 : decode cX5_refusal 34 = .ok (.getfield 47, 3) := by decide +kernel
theorem dX5_refusal_37 : decode cX5_refusal 37 = .ok (.aload_n 0, 1) := by decide +kernel
theorem dX5_refusal_38 : decode cX5_refusal 38 = .ok (.getfield 18, 3) := by decide +kernel
theorem dX5_refusal_41 : decode cX5_refusal 41 = .ok (.invokevirtual 117, 3) := by decide +kernel
theorem dX5_refusal_44 : decode cX5_refusal 44 = .ok (.iadd, 1) := by decide +kernel
theorem dX5_refusal_45 : decode cX5_refusal 45 = .ok (.aload_n 0, 1) := by decide +kernel
theorem dX5_refusal_46 : decode cX5_refusal 46 = .ok (.getfield 18, 3) := by decide +kernel
theorem dX5_refusal_49 : decode cX5_refusal 49 = .ok (.getfield 121, 3) := by decide +kernel
theorem dX5_refusal_52 : decode cX5_refusal 52 = .ok (.iload_n 1, 1) := by decide +kernel
theorem dX5_refusal_53 : decode cX5_refusal 53 = .ok (.iaload, 1) := by decide +kernel
theorem dX5_refusal_54 : decode cX5_refusal 54 = .ok (.iadd, 1) := by decide +kernel
theorem dX5_refusal_55 : decode cX5_refusal 55 = .ok (.bipush 60, 2) := by decide +kernel
theorem dX5_refusal_57 : decode cX5_refusal 57 = .ok (.if_icmp .le 7, 3) := by decide +kernel
theorem dX5_refusal_60 : decode cX5_refusal 60 = .ok (.iconst 2, 1) := by decide +kernel
theorem dX5_refusal_61 : decode cX5_refusal 61 = .ok (.goto 4, 3) := by decide +kernel
theorem dX5_refusal_64 : decode cX5_refusal 64 = .ok (.iconst 0, 1) := by decide +kernel
theorem dX5_refusal_65 : decode cX5_refusal 65 = .ok (.ireturn, 1) := by decide +kernel
theorem dX5_welcome_0 : decode cX5_welcome 0 = .ok (.aload_n 0, 1) := by decide +kernel
theorem dX5_welcome_1 : decode cX5_welcome 1 = .ok (.dup, 1) := by decide +kernel
theorem dX5_welcome_2 : decode cX5_welcome 2 = .ok (.getfield 71, 3) := by decide +kernel
theorem dX5_welcome_5 : decode cX5_welcome 5 = .ok (.iload 5, 2) := by decide +kernel
theorem dX5_welcome_7 : decode cX5_welcome 7 = .ok (.iadd, 1) := by decide +kernel
theorem dX5_welcome_8 : decode cX5_welcome 8 = .ok (.putfield 71, 3) := by decide +kernel
theorem dX5_welcome_11 : decode cX5_welcome 11 = .ok (.aload_n 0, 1) := by decide +kernel
theorem dX5_welcome_12 : decode cX5_welcome 12 = .ok (.getfield 32, 3) := by decide +kernel
theorem dX5_welcome_15 : decode cX5_welcome 15 = .ok (.iload_n 1, 1) := by decide +kernel
theorem dX5_welcome_16 : decode cX5_welcome 16 = .ok (.iload_n 2, 1) := by decide +kernel
theorem dX5_welcome_17 : decode cX5_welcome 17 = .ok (.iload_n 3, 1) := by decide +kernel
theorem dX5_welcome_18 : decode cX5_welcome 18 = .ok (.iload 4, 2) := by decide +kernel
theorem dX5_welcome_20 : decode cX5_welcome 20 = .ok (.iload 5, 2) := by decide +kernel
theorem dX5_welcome_22 : decode cX5_welcome 22 = .ok (.iload 6, 2) := by decide +kernel
theorem dX5_welcome_24 : decode cX5_welcome 24 = .ok (.invokevirtual 124, 3) := by decide +kernel
theorem dX5_welcome_27 : decode cX5_welcome 27 = .ok (.ireturn, 1) := by decide +kernel
theorem dX5_dismiss_0 : decode cX5_dismiss 0 = .ok (.iload_n 1, 1) := by decide +kernel
theorem dX5_dismiss_1 : decode cX5_dismiss 1 = .ok (.ifCond .lt 60, 3) := by decide +kernel
theorem dX5_dismiss_4 : decode cX5_dismiss 4 = .ok (.iload_n 1, 1) := by decide +kernel
theorem dX5_dismiss_5 : decode cX5_dismiss 5 = .ok (.aload_n 0, 1) := by decide +kernel
theorem dX5_dismiss_6 : decode cX5_dismiss 6 = .ok (.getfield 32, 3) := by decide +kernel
theorem dX5_dismiss_9 : decode cX5_dismiss 9 = .ok (.getfield 48, 3) := by decide +kernel
theorem dX5_dismiss_12 : decode cX5_dismiss 12 = .ok (.if_icmp .ge 49, 3) := by decide +kernel
theorem dX5_dismiss_15 : decode cX5_dismiss 15 = .ok (.aload_n 0, 1) := by decide +kernel
theorem dX5_dismiss_16 : decode cX5_dismiss 16 = .ok (.getfield 39, 3) := by decide +kernel
theorem dX5_dismiss_19 : decode cX5_dismiss 19 = .ok (.iconst 3, 1) := by decide +kernel
theorem dX5_dismiss_20 : decode cX5_dismiss 20 = .ok (.aload_n 0, 1) := by decide +kernel
theorem dX5_dismiss_21 : decode cX5_dismiss 21 = .ok (.getfield 32, 3) := by decide +kernel
theorem dX5_dismiss_24 : decode cX5_dismiss 24 = .ok (.getfield 128, 3) := by decide +kernel
theorem dX5_dismiss_27 : decode cX5_dismiss 27 = .ok (.iload_n 1, 1) := by decide +kernel
theorem dX5_dismiss_28 : decode cX5_dismiss 28 = .ok (.iaload, 1) := by decide +kernel
theorem dX5_dismiss_29 : decode cX5_dismiss 29 = .ok (.iload_n 2, 1) := by decide +kernel
theorem dX5_dismiss_30 : decode cX5_dismiss 30 = .ok (.invokevirtual 131, 3) := by decide +kernel
theorem dX5_dismiss_33 : decode cX5_dismiss 33 = .ok (.aload_n 0, 1) := by decide +kernel
theorem dX5_dismiss_34 : decode cX5_dismiss 34 = .ok (.dup, 1) := by decide +kernel
theorem dX5_dismiss_35 : decode cX5_dismiss 35 = .ok (.getfield 74, 3) := by decide +kernel
theorem dX5_dismiss_38 : decode cX5_dismiss 38 = .ok (.aload_n 0, 1) := by decide +kernel
theorem dX5_dismiss_39 : decode cX5_dismiss 39 = .ok (.getfield 32, 3) := by decide +kernel
theorem dX5_dismiss_42 : decode cX5_dismiss 42 = .ok (.getfield 134, 3) := by decide +kernel
theorem dX5_dismiss_45 : decode cX5_dismiss 45 = .ok (.iload_n 1, 1) := by decide +kernel
theorem dX5_dismiss_46 : decode cX5_dismiss 46 = .ok (.iaload, 1) := by decide +kernel
theorem dX5_dismiss_47 : decode cX5_dismiss 47 = .ok (.iadd, 1) := by decide +kernel
theorem dX5_dismiss_48 : decode cX5_dismiss 48 = .ok (.putfield 74, 3) := by decide +kernel
theorem dX5_dismiss_51 : decode cX5_dismiss 51 = .ok (.aload_n 0, 1) := by decide +kernel
theorem dX5_dismiss_52 : decode cX5_dismiss 52 = .ok (.getfield 32, 3) := by decide +kernel
theorem dX5_dismiss_55 : decode cX5_dismiss 55 = .ok (.getfield 128, 3) := by decide +kernel
theorem dX5_dismiss_58 : decode cX5_dismiss 58 = .ok (.iload_n 1, 1) := by decide +kernel
theorem dX5_dismiss_59 : decode cX5_dismiss 59 = .ok (.iconst (-1), 1) := by decide +kernel
theorem dX5_dismiss_60 : decode cX5_dismiss 60 = .ok (.iastore, 1) := by decide +kernel
theorem dX5_dismiss_61 : decode cX5_dismiss 61 = .ok (.return_, 1) := by decide +kernel
theorem dX5_passHour_0 : decode cX5_passHour 0 = .ok (.aload_n 0, 1) := by decide +kernel
theorem dX5_passHour_1 : decode cX5_passHour 1 = .ok (.dup, 1) := by decide +kernel
theorem dX5_passHour_2 : decode cX5_passHour 2 = .ok (.getfield 53, 3) := by decide +kernel
theorem dX5_passHour_5 : decode cX5_passHour 5 = .ok (.iconst 1, 1) := by decide +kernel
theorem dX5_passHour_6 : decode cX5_passHour 6 = .ok (.iadd, 1) := by decide +kernel
theorem dX5_passHour_7 : decode cX5_passHour 7 = .ok (.putfield 53, 3) := by decide +kernel
theorem dX5_passHour_10 : decode cX5_passHour 10 = .ok (.aload_n 0, 1) := by decide +kernel
theorem dX5_passHour_11 : decode cX5_passHour 11 = .ok (.invokevirtual 137, 3) := by decide +kernel
theorem dX5_passHour_14 : decode cX5_passHour 14 = .ok (.aload_n 0, 1) := by decide +kernel
theorem dX5_passHour_15 : decode cX5_passHour 15 = .ok (.invokevirtual 140, 3) := by decide +kernel
theorem dX5_passHour_18 : decode cX5_passHour 18 = .ok (.aload_n 0, 1) := by decide +kernel
theorem dX5_passHour_19 : decode cX5_passHour 19 = .ok (.invokevirtual 143, 3) := by decide +kernel
theorem dX5_passHour_22 : decode cX5_passHour 22 = .ok (.aload_n 0, 1) := by decide +kernel
theorem dX5_passHour_23 : decode cX5_passHour 23 = .ok (.invokevirtual 146, 3) := by decide +kernel
theorem dX5_passHour_26 : decode cX5_passHour 26 = .ok (.return_, 1) := by decide +kernel
theorem dX5_emptyOvens_0 : decode cX5_emptyOvens 0 = .ok (.iconst 0, 1) := by decide +kernel
theorem dX5_emptyOvens_1 : decode cX5_emptyOvens 1 = .ok (.istore_n 1, 1) := by decide +kernel
theorem dX5_emptyOvens_2 : decode cX5_emptyOvens 2 = .ok (.iload_n 1, 1) := by decide +kernel
theorem dX5_emptyOvens_3 : decode cX5_emptyOvens 3 = .ok (.aload_n 0, 1) := by decide +kernel
theorem dX5_emptyOvens_4 : decode cX5_emptyOvens 4 = .ok (.getfield 18, 3) := by decide +kernel
theorem dX5_emptyOvens_7 : decode cX5_emptyOvens 7 = .ok (.getfield 43, 3) := by decide +kernel
theorem dX5_emptyOvens_10 : decode cX5_emptyOvens 10 = .ok (.if_icmp .ge 121, 3) := by decide +kernel
theorem dX5_emptyOvens_13 : decode cX5_emptyOvens 13 = .ok (.aload_n 0, 1) := by decide +kernel
theorem dX5_emptyOvens_14 : decode cX5_emptyOvens 14 = .ok (.getfield 18, 3) := by decide +kernel
theorem dX5_emptyOvens_17 : decode cX5_emptyOvens 17 = .ok (.getfield 116, 3) := by decide +kernel
theorem dX5_emptyOvens_20 : decode cX5_emptyOvens 20 = .ok (.iload_n 1, 1) := by decide +kernel
theorem dX5_emptyOvens_21 : decode cX5_emptyOvens 21 = .ok (.iaload, 1) := by decide +kernel
theorem dX5_emptyOvens_22 : decode cX5_emptyOvens 22 = .ok (.iconst (-1), 1) := by decide +kernel
theorem dX5_emptyOvens_23 : decode cX5_emptyOvens 23 = .ok (.if_icmp .eq 102, 3) := by decide +kernel
theorem dX5_emptyOvens_26 : decode cX5_emptyOvens 26 = .ok (.aload_n 0, 1) := by decide +kernel
theorem dX5_emptyOvens_27 : decode cX5_emptyOvens 27 = .ok (.getfield 18, 3) := by decide +kernel
theorem dX5_emptyOvens_30 : decode cX5_emptyOvens 30 = .ok (.getfield 149, 3) := by decide +kernel
theorem dX5_emptyOvens_33 : decode cX5_emptyOvens 33 = .ok (.iload_n 1, 1) := by decide +kernel
theorem dX5_emptyOvens_34 : decode cX5_emptyOvens 34 = .ok (.dup2, 1) := by decide +kernel
theorem dX5_emptyOvens_35 : decode cX5_emptyOvens 35 = .ok (.iaload, 1) := by decide +kernel
theorem dX5_emptyOvens_36 : decode cX5_emptyOvens 36 = .ok (.iconst 1, 1) := by decide +kernel
theorem dX5_emptyOvens_37 : decode cX5_emptyOvens 37 = .ok (.isub, 1) := by decide +kernel
theorem dX5_emptyOvens_38 : decode cX5_emptyOvens 38 = .ok (.iastore, 1) := by decide +kernel
theorem dX5_emptyOvens_39 : decode cX5_emptyOvens 39 = .ok (.aload_n 0, 1) := by decide +kernel
theorem dX5_emptyOvens_40 : decode cX5_emptyOvens 40 = .ok (.getfield 18, 3) := by decide +kernel
theorem dX5_emptyOvens_43 : decode cX5_emptyOvens 43 = .ok (.getfield 149, 3) := by decide +kernel
theorem dX5_emptyOvens_46 : decode cX5_emptyOvens 46 = .ok (.iload_n 1, 1) := by decide +kernel
theorem dX5_emptyOvens_47 : decode cX5_emptyOvens 47 = .ok (.iaload, 1) := by decide +kernel
theorem dX5_emptyOvens_48 : decode cX5_emptyOvens 48 = .ok (.ifCond .gt 77, 3) := by decide +kernel
theorem dX5_emptyOvens_51 : decode cX5_emptyOvens 51 = .ok (.aload_n 0, 1) := by decide +kernel
theorem dX5_emptyOvens_52 : decode cX5_emptyOvens 52 = .ok (.getfield 25, 3) := by decide +kernel
theorem dX5_emptyOvens_55 : decode cX5_emptyOvens 55 = .ok (.aload_n 0, 1) := by decide +kernel
theorem dX5_emptyOvens_56 : decode cX5_emptyOvens 56 = .ok (.getfield 18, 3) := by decide +kernel
theorem dX5_emptyOvens_59 : decode cX5_emptyOvens 59 = .ok (.getfield 121, 3) := by decide +kernel
theorem dX5_emptyOvens_62 : decode cX5_emptyOvens 62 = .ok (.iload_n 1, 1) := by decide +kernel
theorem dX5_emptyOvens_63 : decode cX5_emptyOvens 63 = .ok (.iaload, 1) := by decide +kernel
theorem dX5_emptyOvens_64 : decode cX5_emptyOvens 64 = .ok (.aload_n 0, 1) := by decide +kernel
theorem dX5_emptyOvens_65 : decode cX5_emptyOvens 65 = .ok (.getfield 18, 3) := by decide +kernel
theorem dX5_emptyOvens_68 : decode cX5_emptyOvens 68 = .ok (.getfield 116, 3) := by decide +kernel
theorem dX5_emptyOvens_71 : decode cX5_emptyOvens 71 = .ok (.iload_n 1, 1) := by decide +kernel
theorem dX5_emptyOvens_72 : decode cX5_emptyOvens 72 = .ok (.iaload, 1) := by decide +kernel
theorem dX5_emptyOvens_73 : decode cX5_emptyOvens 73 = .ok (.iload_n 1, 1) := by decide +kernel
theorem dX5_emptyOvens_74 : decode cX5_emptyOvens 74 = .ok (.aload_n 0, 1) := by decide +kernel
theorem dX5_emptyOvens_75 : decode cX5_emptyOvens 75 = .ok (.getfield 53, 3) := by decide +kernel
theorem dX5_emptyOvens_78 : decode cX5_emptyOvens 78 = .ok (.invokevirtual 152, 3) := by decide +kernel
theorem dX5_emptyOvens_81 : decode cX5_emptyOvens 81 = .ok (.aload_n 0, 1) := by decide +kernel
theorem dX5_emptyOvens_82 : decode cX5_emptyOvens 82 = .ok (.dup, 1) := by decide +kernel
theorem dX5_emptyOvens_83 : decode cX5_emptyOvens 83 = .ok (.getfield 62, 3) := by decide +kernel
theorem dX5_emptyOvens_86 : decode cX5_emptyOvens 86 = .ok (.aload_n 0, 1) := by decide +kernel
theorem dX5_emptyOvens_87 : decode cX5_emptyOvens 87 = .ok (.getfield 18, 3) := by decide +kernel
theorem dX5_emptyOvens_90 : decode cX5_emptyOvens 90 = .ok (.getfield 121, 3) := by decide +kernel
theorem dX5_emptyOvens_93 : decode cX5_emptyOvens 93 = .ok (.iload_n 1, 1) := by decide +kernel
theorem dX5_emptyOvens_94 : decode cX5_emptyOvens 94 = .ok (.iaload, 1) := by decide +kernel
theorem dX5_emptyOvens_95 : decode cX5_emptyOvens 95 = .ok (.iadd, 1) := by decide +kernel
theorem dX5_emptyOvens_96 : decode cX5_emptyOvens 96 = .ok (.putfield 62, 3) := by decide +kernel
theorem dX5_emptyOvens_99 : decode cX5_emptyOvens 99 = .ok (.aload_n 0, 1) := by decide +kernel
theorem dX5_emptyOvens_100 : decode cX5_emptyOvens 100 = .ok (.getfield 39, 3) := by decide +kernel
theorem dX5_emptyOvens_103 : decode cX5_emptyOvens 103 = .ok (.iconst 0, 1) := by decide +kernel
theorem dX5_emptyOvens_104 : decode cX5_emptyOvens 104 = .ok (.iload_n 1, 1) := by decide +kernel
theorem dX5_emptyOvens_105 : decode cX5_emptyOvens 105 = .ok (.aload_n 0, 1) := by decide +kernel
theorem dX5_emptyOvens_106 : decode cX5_emptyOvens 106 = .ok (.getfield 18, 3) := by decide +kernel
theorem dX5_emptyOvens_109 : decode cX5_emptyOvens 109 = .ok (.getfield 121, 3) := by decide +kernel
theorem dX5_emptyOvens_112 : decode cX5_emptyOvens 112 = .ok (.iload_n 1, 1) := by decide +kernel
theorem dX5_emptyOvens_113 : decode cX5_emptyOvens 113 = .ok (.iaload, 1) := by decide +kernel
theorem dX5_emptyOvens_114 : decode cX5_emptyOvens 114 = .ok (.invokevirtual 131, 3) := by decide +kernel
theorem dX5_emptyOvens_117 : decode cX5_emptyOvens 117 = .ok (.aload_n 0, 1) := by decide +kernel
theorem dX5_emptyOvens_118 : decode cX5_emptyOvens 118 = .ok (.getfield 18, 3) := by decide +kernel
theorem dX5_emptyOvens_121 : decode cX5_emptyOvens 121 = .ok (.iload_n 1, 1) := by decide +kernel
theorem dX5_emptyOvens_122 : decode cX5_emptyOvens 122 = .ok (.invokevirtual 155, 3) := by decide +kernel
theorem dX5_emptyOvens_125 : decode cX5_emptyOvens 125 = .ok (.iinc 1 1, 3) := by decide +kernel
theorem dX5_emptyOvens_128 : decode cX5_emptyOvens 128 = .ok (.goto (-126), 3) := by decide +kernel
theorem dX5_emptyOvens_131 : decode cX5_emptyOvens 131 = .ok (.return_, 1) := by decide +kernel
theorem dX5_throwOutStale_0 : decode cX5_throwOutStale 0 = .ok (.iconst 0, 1) := by decide +kernel
theorem dX5_throwOutStale_1 : decode cX5_throwOutStale 1 = .ok (.istore_n 1, 1) := by decide +kernel
theorem dX5_throwOutStale_2 : decode cX5_throwOutStale 2 = .ok (.iload_n 1, 1) := by decide +kernel
theorem dX5_throwOutStale_3 : decode cX5_throwOutStale 3 = .ok (.aload_n 0, 1) := by decide +kernel
theorem dX5_throwOutStale_4 : decode cX5_throwOutStale 4 = .ok (.getfield 25, 3) := by decide +kernel
theorem dX5_throwOutStale_7 : decode cX5_throwOutStale 7 = .ok (.getfield 47, 3) := by decide +kernel
theorem dX5_throwOutStale_10 : decode cX5_throwOutStale 10 = .ok (.if_icmp .ge 73, 3) := by decide +kernel
theorem dX5_throwOutStale_13 : decode cX5_throwOutStale 13 = .ok (.aload_n 0, 1) := by decide +kernel
theorem dX5_throwOutStale_14 : decode cX5_throwOutStale 14 = .ok (.iload_n 1, 1) := by decide +kernel
theorem dX5_throwOutStale_15 : decode cX5_throwOutStale 15 = .ok (.invokevirtual 159, 3) := by decide +kernel
theorem dX5_throwOutStale_18 : decode cX5_throwOutStale 18 = .ok (.ifCond .ne 59, 3) := by decide +kernel
theorem dX5_throwOutStale_21 : decode cX5_throwOutStale 21 = .ok (.aload_n 0, 1) := by decide +kernel
theorem dX5_throwOutStale_22 : decode cX5_throwOutStale 22 = .ok (.getfield 39, 3) := by decide +kernel
theorem dX5_throwOutStale_25 : decode cX5_throwOutStale 25 = .ok (.iconst 2, 1) := by decide +kernel
theorem dX5_throwOutStale_26 : decode cX5_throwOutStale 26 = .ok (.aload_n 0, 1) := by decide +kernel
theorem dX5_throwOutStale_27 : decode cX5_throwOutStale 27 = .ok (.getfield 25, 3) := by decide +kernel
theorem dX5_throwOutStale_30 : decode cX5_throwOutStale 30 = .ok (.getfield 97, 3) := by decide +kernel
theorem dX5_throwOutStale_33 : decode cX5_throwOutStale 33 = .ok (.iload_n 1, 1) := by decide +kernel
theorem dX5_throwOutStale_34 : decode cX5_throwOutStale 34 = .ok (.iaload, 1) := by decide +kernel
theorem dX5_throwOutStale_35 : decode cX5_throwOutStale 35 = .ok (.aload_n 0, 1) := by decide +kernel
theorem dX5_throwOutStale_36 : decode cX5_throwOutStale 36 = .ok (.getfield 25, 3) := by decide +kernel
theorem dX5_throwOutStale_39 : decode cX5_throwOutStale 39 = .ok (.getfield 162, 3) := by decide +kernel
theorem dX5_throwOutStale_42 : decode cX5_throwOutStale 42 = .ok (.iload_n 1, 1) := by decide +kernel
theorem dX5_throwOutStale_43 : decode cX5_throwOutStale 43 = .ok (.iaload, 1) := by decide +kernel
theorem dX5_throwOutStale_44 : decode cX5_throwOutStale 44 = .ok (.invokevirtual 131, 3) := by decide +kernel
theorem dX5_throwOutStale_47 : decode cX5_throwOutStale 47 = .ok (.aload_n 0, 1) := by decide +kernel
theorem dX5_throwOutStale_48 : decode cX5_throwOutStale 48 = .ok (.dup, 1) := by decide +kernel
theorem dX5_throwOutStale_49 : decode cX5_throwOutStale 49 = .ok (.getfield 68, 3) := by decide +kernel
theorem dX5_throwOutStale_52 : decode cX5_throwOutStale 52 = .ok (.iconst 1, 1) := by decide +kernel
theorem dX5_throwOutStale_53 : decode cX5_throwOutStale 53 = .ok (.iadd, 1) := by decide +kernel
theorem dX5_throwOutStale_54 : decode cX5_throwOutStale 54 = .ok (.putfield 68, 3) := by decide +kernel
theorem dX5_throwOutStale_57 : decode cX5_throwOutStale 57 = .ok (.aload_n 0, 1) := by decide +kernel
theorem dX5_throwOutStale_58 : decode cX5_throwOutStale 58 = .ok (.dup, 1) := by decide +kernel
theorem dX5_throwOutStale_59 : decode cX5_throwOutStale 59 = .ok (.getfield 56, 3) := by decide +kernel
theorem dX5_throwOutStale_62 : decode cX5_throwOutStale 62 = .ok (.iconst 5, 1) := by decide +kernel
theorem dX5_throwOutStale_63 : decode cX5_throwOutStale 63 = .ok (.iadd, 1) := by decide +kernel
theorem dX5_throwOutStale_64 : decode cX5_throwOutStale 64 = .ok (.putfield 56, 3) := by decide +kernel
theorem dX5_throwOutStale_67 : decode cX5_throwOutStale 67 = .ok (.aload_n 0, 1) := by decide +kernel
theorem dX5_throwOutStale_68 : decode cX5_throwOutStale 68 = .ok (.getfield 25, 3) := by decide +kernel
theorem dX5_throwOutStale_71 : decode cX5_throwOutStale 71 = .ok (.getfield 97, 3) := by decide +kernel
theorem dX5_throwOutStale_74 : decode cX5_throwOutStale 74 = .ok (.iload_n 1, 1) := by decide +kernel
theorem dX5_throwOutStale_75 : decode cX5_throwOutStale 75 = .ok (.iconst (-1), 1) := by decide +kernel
theorem dX5_throwOutStale_76 : decode cX5_throwOutStale 76 = .ok (.iastore, 1) := by decide +kernel
theorem dX5_throwOutStale_77 : decode cX5_throwOutStale 77 = .ok (.iinc 1 1, 3) := by decide +kernel
theorem dX5_throwOutStale_80 : decode cX5_throwOutStale 80 = .ok (.goto (-78), 3) := by decide +kernel
theorem dX5_throwOutStale_83 : decode cX5_throwOutStale 83 = .ok (.aload_n 0, 1) := by decide +kernel
theorem dX5_throwOutStale_84 : decode cX5_throwOutStale 84 = .ok (.getfield 25, 3) := by decide +kernel
theorem dX5_throwOutStale_87 : decode cX5_throwOutStale 87 = .ok (.invokevirtual 165, 3) := by decide +kernel
theorem dX5_throwOutStale_90 : decode cX5_throwOutStale 90 = .ok (.return_, 1) := by decide +kernel
theorem dX5_feedSparrows_0 : decode cX5_feedSparrows 0 = .ok (.iconst 3, 1) := by decide +kernel
theorem dX5_feedSparrows_1 : decode cX5_feedSparrows 1 = .ok (.aload_n 0, 1) := by decide +kernel
theorem dX5_feedSparrows_2 : decode cX5_feedSparrows 2 = .ok (.getfield 59, 3) := by decide +kernel
theorem dX5_feedSparrows_5 : decode cX5_feedSparrows 5 = .ok (.imul, 1) := by decide +kernel
theorem dX5_feedSparrows_6 : decode cX5_feedSparrows 6 = .ok (.istore_n 1, 1) := by decide +kernel
theorem dX5_feedSparrows_7 : decode cX5_feedSparrows 7 = .ok (.aload_n 0, 1) := by decide +kernel
theorem dX5_feedSparrows_8 : decode cX5_feedSparrows 8 = .ok (.iload_n 1, 1) := by decide +kernel
theorem dX5_feedSparrows_9 : decode cX5_feedSparrows 9 = .ok (.aload_n 0, 1) := by decide +kernel
theorem dX5_feedSparrows_10 : decode cX5_feedSparrows 10 = .ok (.getfield 56, 3) := by decide +kernel
theorem dX5_feedSparrows_13 : decode cX5_feedSparrows 13 = .ok (.if_icmp .ge 12, 3) := by decide +kernel
theorem dX5_feedSparrows_16 : decode cX5_feedSparrows 16 = .ok (.aload_n 0, 1) := by decide +kernel
theorem dX5_feedSparrows_17 : decode cX5_feedSparrows 17 = .ok (.getfield 56, 3) := by decide +kernel
theorem dX5_feedSparrows_20 : decode cX5_feedSparrows 20 = .ok (.iload_n 1, 1) := by decide +kernel
theorem dX5_feedSparrows_21 : decode cX5_feedSparrows 21 = .ok (.isub, 1) := by decide +kernel
theorem dX5_feedSparrows_22 : decode cX5_feedSparrows 22 = .ok (.goto 4, 3) := by decide +kernel
theorem dX5_feedSparrows_25 : decode cX5_feedSparrows 25 = .ok (.iconst 0, 1) := by decide +kernel
theorem dX5_feedSparrows_26 : decode cX5_feedSparrows 26 = .ok (.putfield 56, 3) := by decide +kernel
theorem dX5_feedSparrows_29 : decode cX5_feedSparrows 29 = .ok (.aload_n 0, 1) := by decide +kernel
theorem dX5_feedSparrows_30 : decode cX5_feedSparrows 30 = .ok (.getfield 56, 3) := by decide +kernel
theorem dX5_feedSparrows_33 : decode cX5_feedSparrows 33 = .ok (.bipush 20, 2) := by decide +kernel
theorem dX5_feedSparrows_35 : decode cX5_feedSparrows 35 = .ok (.if_icmp .le 25, 3) := by decide +kernel
theorem dX5_feedSparrows_38 : decode cX5_feedSparrows 38 = .ok (.aload_n 0, 1) := by decide +kernel
theorem dX5_feedSparrows_39 : decode cX5_feedSparrows 39 = .ok (.getfield 59, 3) := by decide +kernel
theorem dX5_feedSparrows_42 : decode cX5_feedSparrows 42 = .ok (.bipush 9, 2) := by decide +kernel
theorem dX5_feedSparrows_44 : decode cX5_feedSparrows 44 = .ok (.if_icmp .ge 40, 3) := by decide +kernel
theorem dX5_feedSparrows_47 : decode cX5_feedSparrows 47 = .ok (.aload_n 0, 1) := by decide +kernel
theorem dX5_feedSparrows_48 : decode cX5_feedSparrows 48 = .ok (.dup, 1) := by decide +kernel
theorem dX5_feedSparrows_49 : decode cX5_feedSparrows 49 = .ok (.getfield 59, 3) := by decide +kernel
theorem dX5_feedSparrows_52 : decode cX5_feedSparrows 52 = .ok (.iconst 1, 1) := by decide +kernel
theorem dX5_feedSparrows_53 : decode cX5_feedSparrows 53 = .ok (.iadd, 1) := by decide +kernel
theorem dX5_feedSparrows_54 : decode cX5_feedSparrows 54 = .ok (.putfield 59, 3) := by decide +kernel
theorem dX5_feedSparrows_57 : decode cX5_feedSparrows 57 = .ok (.goto 27, 3) := by decide +kernel
theorem dX5_feedSparrows_60 : decode cX5_feedSparrows 60 = .ok (.aload_n 0, 1) := by decide +kernel
theorem dX5_feedSparrows_61 : decode cX5_feedSparrows 61 = .ok (.getfield 56, 3) := by decide +kernel
theorem dX5_feedSparrows_64 : decode cX5_feedSparrows 64 = .ok (.ifCond .ne 20, 3) := by decide +kernel
theorem dX5_feedSparrows_67 : decode cX5_feedSparrows 67 = .ok (.aload_n 0, 1) := by decide +kernel
theorem dX5_feedSparrows_68 : decode cX5_feedSparrows 68 = .ok (.getfield 59, 3) := by decide +kernel
theorem dX5_feedSparrows_71 : decode cX5_feedSparrows 71 = .ok (.ifCond .le 13, 3) := by decide +kernel
theorem dX5_feedSparrows_74 : decode cX5_feedSparrows 74 = .ok (.aload_n 0, 1) := by decide +kernel
theorem dX5_feedSparrows_75 : decode cX5_feedSparrows 75 = .ok (.dup, 1) := by decide +kernel
theorem dX5_feedSparrows_76 : decode cX5_feedSparrows 76 = .ok (.getfield 59, 3) := by decide +kernel
theorem dX5_feedSparrows_79 : decode cX5_feedSparrows 79 = .ok (.iconst 1, 1) := by decide +kernel
theorem dX5_feedSparrows_80 : decode cX5_feedSparrows 80 = .ok (.isub, 1) := by decide +kernel
theorem dX5_feedSparrows_81 : decode cX5_feedSparrows 81 = .ok (.putfield 59, 3) := by decide +kernel
theorem dX5_feedSparrows_84 : decode cX5_feedSparrows 84 = .ok (.return_, 1) := by decide +kernel
theorem dX5_loseOnePatience_0 : decode cX5_loseOnePatience 0 = .ok (.iconst 0, 1) := by decide +kernel
theorem dX5_loseOnePatience_1 : decode cX5_loseOnePatience 1 = .ok (.istore_n 1, 1) := by decide +kernel
theorem dX5_loseOnePatience_2 : decode cX5_loseOnePatience 2 = .ok (.iload_n 1, 1) := by decide +kernel
theorem dX5_loseOnePatience_3 : decode cX5_loseOnePatience 3 = .ok (.aload_n 0, 1) := by decide +kernel
theorem dX5_loseOnePatience_4 : decode cX5_loseOnePatience 4 = .ok (.getfield 32, 3) := by decide +kernel
theorem dX5_loseOnePatience_7 : decode cX5_loseOnePatience 7 = .ok (.getfield 48, 3) := by decide +kernel
theorem dX5_loseOnePatience_10 : decode cX5_loseOnePatience 10 = .ok (.if_icmp .ge 40, 3) := by decide +kernel
theorem dX5_loseOnePatience_13 : decode cX5_loseOnePatience 13 = .ok (.aload_n 0, 1) := by decide +kernel
theorem dX5_loseOnePatience_14 : decode cX5_loseOnePatience 14 = .ok (.getfield 32, 3) := by decide +kernel
theorem dX5_loseOnePatience_17 : decode cX5_loseOnePatience 17 = .ok (.getfield 168, 3) := by decide +kernel
theorem dX5_loseOnePatience_20 : decode cX5_loseOnePatience 20 = .ok (.iload_n 1, 1) := by decide +kernel
theorem dX5_loseOnePatience_21 : decode cX5_loseOnePatience 21 = .ok (.dup2, 1) := by decide +kernel
theorem dX5_loseOnePatience_22 : decode cX5_loseOnePatience 22 = .ok (.iaload, 1) := by decide +kernel
theorem dX5_loseOnePatience_23 : decode cX5_loseOnePatience 23 = .ok (.iconst 1, 1) := by decide +kernel
theorem dX5_loseOnePatience_24 : decode cX5_loseOnePatience 24 = .ok (.isub, 1) := by decide +kernel
theorem dX5_loseOnePatience_25 : decode cX5_loseOnePatience 25 = .ok (.iastore, 1) := by decide +kernel
theorem dX5_loseOnePatience_26 : decode cX5_loseOnePatience 26 = .ok (.aload_n 0, 1) := by decide +kernel
theorem dX5_loseOnePatience_27 : decode cX5_loseOnePatience 27 = .ok (.getfield 32, 3) := by decide +kernel
theorem dX5_loseOnePatience_30 : decode cX5_loseOnePatience 30 = .ok (.getfield 168, 3) := by decide +kernel
theorem dX5_loseOnePatience_33 : decode cX5_loseOnePatience 33 = .ok (.iload_n 1, 1) := by decide +kernel
theorem dX5_loseOnePatience_34 : decode cX5_loseOnePatience 34 = .ok (.iaload, 1) := by decide +kernel
theorem dX5_loseOnePatience_35 : decode cX5_loseOnePatience 35 = .ok (.ifCond .gt 9, 3) := by decide +kernel
theorem dX5_loseOnePatience_38 : decode cX5_loseOnePatience 38 = .ok (.aload_n 0, 1) := by decide +kernel
theorem dX5_loseOnePatience_39 : decode cX5_loseOnePatience 39 = .ok (.iload_n 1, 1) := by decide +kernel
theorem dX5_loseOnePatience_40 : decode cX5_loseOnePatience 40 = .ok (.iconst 1, 1) := by decide +kernel
theorem dX5_loseOnePatience_41 : decode cX5_loseOnePatience 41 = .ok (.invokevirtual 171, 3) := by decide +kernel
theorem dX5_loseOnePatience_44 : decode cX5_loseOnePatience 44 = .ok (.iinc 1 1, 3) := by decide +kernel
theorem dX5_loseOnePatience_47 : decode cX5_loseOnePatience 47 = .ok (.goto (-45), 3) := by decide +kernel
theorem dX5_loseOnePatience_50 : decode cX5_loseOnePatience 50 = .ok (.aload_n 0, 1) := by decide +kernel
theorem dX5_loseOnePatience_51 : decode cX5_loseOnePatience 51 = .ok (.getfield 32, 3) := by decide +kernel
theorem dX5_loseOnePatience_54 : decode cX5_loseOnePatience 54 = .ok (.invokevirtual 175, 3) := by decide +kernel
theorem dX5_loseOnePatience_57 : decode cX5_loseOnePatience 57 = .ok (.return_, 1) := by decide +kernel
theorem dX6_init_0 : decode cX6_init 0 = .ok (.aload_n 0, 1) := by decide +kernel
theorem dX6_init_1 : decode cX6_init 1 = .ok (.invokespecial 3, 3) := by decide +kernel
theorem dX6_init_4 : decode cX6_init 4 = .ok (.aload_n 0, 1) := by decide +kernel
theorem dX6_init_5 : decode cX6_init 5 = .ok (.bipush 60, 2) := by decide +kernel
theorem dX6_init_7 : decode cX6_init 7 = .ok (.newarray .int, 2) := by decide +kernel
theorem dX6_init_9 : decode cX6_init 9 = .ok (.putfield 9, 3) := by decide +kernel
theorem dX6_init_12 : decode cX6_init 12 = .ok (.aload_n 0, 1) := by decide +kernel
theorem dX6_init_13 : decode cX6_init 13 = .ok (.bipush 60, 2) := by decide +kernel
theorem dX6_init_15 : decode cX6_init 15 = .ok (.newarray .int, 2) := by decide +kernel
theorem dX6_init_17 : decode cX6_init 17 = .ok (.putfield 15, 3) := by decide +kernel
theorem dX6_init_20 : decode cX6_init 20 = .ok (.aload_n 0, 1) := by decide +kernel
theorem dX6_init_21 : decode cX6_init 21 = .ok (.bipush 60, 2) := by decide +kernel
theorem dX6_init_23 : decode cX6_init 23 = .ok (.newarray .int, 2) := by decide +kernel
theorem dX6_init_25 : decode cX6_init 25 = .ok (.putfield 18, 3) := by decide +kernel
theorem dX6_init_28 : decode cX6_init 28 = .ok (.return_, 1) := by decide +kernel
theorem dX6_copyFrom_0 : decode cX6_copyFrom 0 = .ok (.aload_n 0, 1) := by decide +kernel
theorem dX6_copyFrom_1 : decode cX6_copyFrom 1 = .ok (.aload_n 1, 1) := by decide +kernel
theorem dX6_copyFrom_2 : decode cX6_copyFrom 2 = .ok (.getfield 21, 3) := by decide +kernel
theorem dX6_copyFrom_5 : decode cX6_copyFrom 5 = .ok (.putfield 21, 3) := by decide +kernel
theorem dX6_copyFrom_8 : decode cX6_copyFrom 8 = .ok (.aload_n 1, 1) := by decide +kernel
theorem dX6_copyFrom_9 : decode cX6_copyFrom 9 = .ok (.getfield 9, 3) := by decide +kernel
theorem dX6_copyFrom_12 : decode cX6_copyFrom 12 = .ok (.aload_n 0, 1) := by decide +kernel
theorem dX6_copyFrom_13 : decode cX6_copyFrom 13 = .ok (.getfield 9, 3) := by decide +kernel
theorem dX6_copyFrom_16 : decode cX6_copyFrom 16 = .ok (.invokestatic 25, 3) := by decide +kernel
theorem dX6_copyFrom_19 : decode cX6_copyFrom 19 = .ok (.aload_n 1, 1) := by decide +kernel
theorem dX6_copyFrom_20 : decode cX6_copyFrom 20 = .ok (.getfield 15, 3) := by decide +kernel
theorem dX6_copyFrom_23 : decode cX6_copyFrom 23 = .ok (.aload_n 0, 1) := by decide +kernel
theorem dX6_copyFrom_24 : decode cX6_copyFrom 24 = .ok (.getfield 15, 3) := by decide +kernel
theorem dX6_copyFrom_27 : decode cX6_copyFrom 27 = .ok (.invokestatic 25, 3) := by decide +kernel
theorem dX6_copyFrom_30 : decode cX6_copyFrom 30 = .ok (.aload_n 1, 1) := by decide +kernel
theorem dX6_copyFrom_31 : decode cX6_copyFrom 31 = .ok (.getfield 18, 3) := by decide +kernel
theorem dX6_copyFrom_34 : decode cX6_copyFrom 34 = .ok (.aload_n 0, 1) := by decide +kernel
theorem dX6_copyFrom_35 : decode cX6_copyFrom 35 = .ok (.getfield 18, 3) := by decide +kernel
theorem dX6_copyFrom_38 : decode cX6_copyFrom 38 = .ok (.invokestatic 25, 3) := by decide +kernel
theorem dX6_copyFrom_41 : decode cX6_copyFrom 41 = .ok (.return_, 1) := by decide +kernel
theorem dX6_add_0 : decode cX6_add 0 = .ok (.iconst 0, 1) := by decide +kernel
theorem dX6_add_1 : decode cX6_add 1 = .ok (.istore 5, 2) := by decide +kernel
theorem dX6_add_3 : decode cX6_add 3 = .ok (.iload 5, 2) := by decide +kernel
theorem dX6_add_5 : decode cX6_add 5 = .ok (.iload_n 1, 1) := by decide +kernel
theorem dX6_add_6 : decode cX6_add 6 = .ok (.if_icmp .ge 59, 3) := by decide +kernel
theorem dX6_add_9 : decode cX6_add 9 = .ok (.aload_n 0, 1) := by decide +kernel
theorem dX6_add_10 : decode cX6_add 10 = .ok (.getfield 21, 3) := by decide +kernel
theorem dX6_add_13 : decode cX6_add 13 = .ok (.bipush 60, 2) := by decide +kernel
theorem dX6_add_15 : decode cX6_add 15 = .ok (.if_icmp .ge 50, 3) := by decide +kernel
theorem dX6_add_18 : decode cX6_add 18 = .ok (.aload_n 0, 1) := by decide +kernel
theorem dX6_add_19 : decode cX6_add 19 = .ok (.getfield 9, 3) := by decide +kernel
theorem dX6_add_22 : decode cX6_add 22 = .ok (.aload_n 0, 1) := by decide +kernel
theorem dX6_add_23 : decode cX6_add 23 = .ok (.getfield 21, 3) := by decide +kernel
theorem dX6_add_26 : decode cX6_add 26 = .ok (.iload_n 2, 1) := by decide +kernel
theorem dX6_add_27 : decode cX6_add 27 = .ok (.iastore, 1) := by decide +kernel
theorem dX6_add_28 : decode cX6_add 28 = .ok (.aload_n 0, 1) := by decide +kernel
theorem dX6_add_29 : decode cX6_add 29 = .ok (.getfield 15, 3) := by decide +kernel
theorem dX6_add_32 : decode cX6_add 32 = .ok (.aload_n 0, 1) := by decide +kernel
theorem dX6_add_33 : decode cX6_add 33 = .ok (.getfield 21, 3) := by decide +kernel
theorem dX6_add_36 : decode cX6_add 36 = .ok (.iload_n 3, 1) := by decide +kernel
theorem dX6_add_37 : decode cX6_add 37 = .ok (.iastore, 1) := by decide +kernel
theorem dX6_add_38 : decode cX6_add 38 = .ok (.aload_n 0, 1) := by decide +kernel
theorem dX6_add_39 : decode cX6_add 39 = .ok (.getfield 18, 3) := by decide +kernel
theorem dX6_add_42 : decode cX6_add 42 = .ok (.aload_n 0, 1) := by decide +kernel
theorem dX6_add_43 : decode cX6_add 43 = .ok (.getfield 21, 3) := by decide +kernel
theorem dX6_add_46 : decode cX6_add 46 = .ok (.iload 4, 2) := by decide +kernel
theorem dX6_add_48 : decode cX6_add 48 = .ok (.iastore, 1) := by decide +kernel
theorem dX6_add_49 : decode cX6_add 49 = .ok (.aload_n 0, 1) := by decide +kernel
theorem dX6_add_50 : decode cX6_add 50 = .ok (.dup, 1) := by decide +kernel
theorem dX6_add_51 : decode cX6_add 51 = .ok (.getfield 21, 3) := by decide +kernel
theorem dX6_add_54 : decode cX6_add 54 = .ok (.iconst 1, 1) := by decide +kernel
theorem dX6_add_55 : decode cX6_add 55 = .ok (.iadd, 1) := by decide +kernel
theorem dX6_add_56 : decode cX6_add 56 = .ok (.putfield 21, 3) := by decide +kernel
theorem dX6_add_59 : decode cX6_add 59 = .ok (.iinc 5 1, 3) := by decide +kernel
theorem dX6_add_62 : decode cX6_add 62 = .ok (.goto (-59), 3) := by decide +kernel
theorem dX6_add_65 : decode cX6_add 65 = .ok (.return_, 1) := by decide +kernel
theorem dX6_closeGaps_0 : decode cX6_closeGaps 0 = .ok (.iconst 0, 1) := by decide +kernel
theorem dX6_closeGaps_1 : decode cX6_closeGaps 1 = .ok (.istore_n 1, 1) := by decide +kernel
theorem dX6_closeGaps_2 : decode cX6_closeGaps 2 = .ok (.iconst 0, 1) := by decide +kernel
theorem dX6_closeGaps_3 : decode cX6_closeGaps 3 = .ok (.istore_n 2, 1) := by decide +kernel
theorem dX6_closeGaps_4 : decode cX6_closeGaps 4 = .ok (.iload_n 2, 1) := by decide +kernel
theorem dX6_closeGaps_5 : decode cX6_closeGaps 5 = .ok (.aload_n 0, 1) := by decide +kernel
theorem dX6_closeGaps_6 : decode cX6_closeGaps 6 = .ok (.getfield 21, 3) := by decide +kernel
theorem dX6_closeGaps_9 : decode cX6_closeGaps 9 = .ok (.if_icmp .ge 58, 3) := by decide +kernel
theorem dX6_closeGaps_12 : decode cX6_closeGaps 12 = .ok (.aload_n 0, 1) := by decide +kernel
theorem dX6_closeGaps_13 : decode cX6_closeGaps 13 = .ok (.getfield 9, 3) := by decide +kernel
theorem dX6_closeGaps_16 : decode cX6_closeGaps 16 = .ok (.iload_n 2, 1) := by decide +kernel
theorem dX6_closeGaps_17 : decode cX6_closeGaps 17 = .ok (.iaload, 1) := by decide +kernel
theorem dX6_closeGaps_18 : decode cX6_closeGaps 18 = .ok (.iconst (-1), 1) := by decide +kernel
theorem dX6_closeGaps_19 : decode cX6_closeGaps 19 = .ok (.if_icmp .eq 42, 3) := by decide +kernel
theorem dX6_closeGaps_22 : decode cX6_closeGaps 22 = .ok (.aload_n 0, 1) := by decide +kernel
theorem dX6_closeGaps_23 : decode cX6_closeGaps 23 = .ok (.getfield 9, 3) := by decide +kernel
theorem dX6_closeGaps_26 : decode cX6_closeGaps 26 = .ok (.iload_n 1, 1) := by decide +kernel
theorem dX6_closeGaps_27 : decode cX6_closeGaps 27 = .ok (.aload_n 0, 1) := by decide +kernel
theorem dX6_closeGaps_28 : decode cX6_closeGaps 28 = .ok (.getfield 9, 3) := by decide +kernel
theorem dX6_closeGaps_31 : decode cX6_closeGaps 31 = .ok (.iload_n 2, 1) := by decide +kernel
theorem dX6_closeGaps_32 : decode cX6_closeGaps 32 = .ok (.iaload, 1) := by decide +kernel
theorem dX6_closeGaps_33 : decode cX6_closeGaps 33 = .ok (.iastore, 1) := by decide +kernel
theorem dX6_closeGaps_34 : decode cX6_closeGaps 34 = .ok (.aload_n 0, 1) := by decide +kernel
theorem dX6_closeGaps_35 : decode cX6_closeGaps 35 = .ok (.getfield 15, 3) := by decide +kernel
theorem dX6_closeGaps_38 : decode cX6_closeGaps 38 = .ok (.iload_n 1, 1) := by decide +kernel
theorem dX6_closeGaps_39 : decode cX6_closeGaps 39 = .ok (.aload_n 0, 1) := by decide +kernel
theorem dX6_closeGaps_40 : decode cX6_closeGaps 40 = .ok (.getfield 15, 3) := by decide +kernel
theorem dX6_closeGaps_43 : decode cX6_closeGaps 43 = .ok (.iload_n 2, 1) := by decide +kernel
theorem dX6_closeGaps_44 : decode cX6_closeGaps 44 = .ok (.iaload, 1) := by decide +kernel
theorem dX6_closeGaps_45 : decode cX6_closeGaps 45 = .ok (.iastore, 1) := by decide +kernel
theorem dX6_closeGaps_46 : decode cX6_closeGaps 46 = .ok (.aload_n 0, 1) := by decide +kernel
theorem dX6_closeGaps_47 : decode cX6_closeGaps 47 = .ok (.getfield 18, 3) := by decide +kernel
theorem dX6_closeGaps_50 : decode cX6_closeGaps 50 = .ok (.iload_n 1, 1) := by decide +kernel
theorem dX6_closeGaps_51 : decode cX6_closeGaps 51 = .ok (.aload_n 0, 1) := by decide +kernel
theorem dX6_closeGaps_52 : decode cX6_closeGaps 52 = .ok (.getfield 18, 3) := by decide +kernel
theorem dX6_closeGaps_55 : decode cX6_closeGaps 55 = .ok (.iload_n 2, 1) := by decide +kernel
theorem dX6_closeGaps_56 : decode cX6_closeGaps 56 = .ok (.iaload, 1) := by decide +kernel
theorem dX6_closeGaps_57 : decode cX6_closeGaps 57 = .ok (.iastore, 1) := by decide +kernel
theorem dX6_closeGaps_58 : decode cX6_closeGaps 58 = .ok (.iinc 1 1, 3) := by decide +kernel
theorem dX6_closeGaps_61 : decode cX6_closeGaps 61 = .ok (.iinc 2 1, 3) := by decide +kernel
theorem dX6_closeGaps_64 : decode cX6_closeGaps 64 = .ok (.goto (-60), 3) := by decide +kernel
theorem dX6_closeGaps_67 : decode cX6_closeGaps 67 = .ok (.aload_n 0, 1) := by decide +kernel
theorem dX6_closeGaps_68 : decode cX6_closeGaps 68 = .ok (.iload_n 1, 1) := by decide +kernel
theorem dX6_closeGaps_69 : decode cX6_closeGaps 69 = .ok (.putfield 21, 3) := by decide +kernel
theorem dX6_closeGaps_72 : decode cX6_closeGaps 72 = .ok (.return_, 1) := by decide +kernel
theorem dX7_init_0 : decode cX7_init 0 = .ok (.aload_n 0, 1) := by decide +kernel
theorem dX7_init_1 : decode cX7_init 1 = .ok (.invokespecial 1, 3) := by decide +kernel
theorem dX7_init_4 : decode cX7_init 4 = .ok (.aload_n 0, 1) := by decide +kernel
theorem dX7_init_5 : decode cX7_init 5 = .ok (.aload_n 1, 1) := by decide +kernel
theorem dX7_init_6 : decode cX7_init 6 = .ok (.putfield 7, 3) := by decide +kernel
theorem dX7_init_9 : decode cX7_init 9 = .ok (.return_, 1) := by decide +kernel
theorem dX7_begin_0 : decode cX7_begin 0 = .ok (.aload_n 0, 1) := by decide +kernel
theorem dX7_begin_1 : decode cX7_begin 1 = .ok (.iload_n 1, 1) := by decide +kernel
theorem dX7_begin_2 : decode cX7_begin 2 = .ok (.aload_n 0, 1) := by decide +kernel
theorem dX7_begin_3 : decode cX7_begin 3 = .ok (.getfield 7, 3) := by decide +kernel
theorem dX7_begin_6 : decode cX7_begin 6 = .ok (.arraylength, 1) := by decide +kernel
theorem dX7_begin_7 : decode cX7_begin 7 = .ok (.if_icmp .ge 7, 3) := by decide +kernel
theorem dX7_begin_10 : decode cX7_begin 10 = .ok (.iload_n 1, 1) := by decide +kernel
theorem dX7_begin_11 : decode cX7_begin 11 = .ok (.goto 8, 3) := by decide +kernel
theorem dX7_begin_14 : decode cX7_begin 14 = .ok (.aload_n 0, 1) := by decide +kernel
theorem dX7_begin_15 : decode cX7_begin 15 = .ok (.getfield 7, 3) := by decide +kernel
theorem dX7_begin_18 : decode cX7_begin 18 = .ok (.arraylength, 1) := by decide +kernel
theorem dX7_begin_19 : decode cX7_begin 19 = .ok (.putfield 13, 3) := by decide +kernel
theorem dX7_begin_22 : decode cX7_begin 22 = .ok (.aload_n 0, 1) := by decide +kernel
theorem dX7_begin_23 : decode cX7_begin 23 = .ok (.iconst 0, 1) := by decide +kernel
theorem dX7_begin_24 : decode cX7_begin 24 = .ok (.putfield 17, 3) := by decide +kernel
theorem dX7_begin_27 : decode cX7_begin 27 = .ok (.aload_n 0, 1) := by decide +kernel
theorem dX7_begin_28 : decode cX7_begin 28 = .ok (.invokevirtual 20, 3) := by decide +kernel
theorem dX7_begin_31 : decode cX7_begin 31 = .ok (.return_, 1) := by decide +kernel
theorem dX7_next_0 : decode cX7_next 0 = .ok (.aload_n 0, 1) := by decide +kernel
theorem dX7_next_1 : decode cX7_next 1 = .ok (.getfield 17, 3) := by decide +kernel
theorem dX7_next_4 : decode cX7_next 4 = .ok (.istore_n 1, 1) := by decide +kernel
theorem dX7_next_5 : decode cX7_next 5 = .ok (.iload_n 1, 1) := by decide +kernel
theorem dX7_next_6 : decode cX7_next 6 = .ok (.aload_n 0, 1) := by decide +kernel
theorem dX7_next_7 : decode cX7_next 7 = .ok (.getfield 13, 3) := by decide +kernel
theorem dX7_next_10 : decode cX7_next 10 = .ok (.if_icmp .ge 31, 3) := by decide +kernel
theorem dX7_next_13 : decode cX7_next 13 = .ok (.aload_n 0, 1) := by decide +kernel
theorem dX7_next_14 : decode cX7_next 14 = .ok (.getfield 7, 3) := by decide +kernel
theorem dX7_next_17 : decode cX7_next 17 = .ok (.iload_n 1, 1) := by decide +kernel
theorem dX7_next_18 : decode cX7_next 18 = .ok (.baload, 1) := by decide +kernel
theorem dX7_next_19 : decode cX7_next 19 = .ok (.bipush 32, 2) := by decide +kernel
theorem dX7_next_21 : decode cX7_next 21 = .ok (.if_icmp .eq 14, 3) := by decide +kernel
theorem dX7_next_24 : decode cX7_next 24 = .ok (.aload_n 0, 1) := by decide +kernel
theorem dX7_next_25 : decode cX7_next 25 = .ok (.getfield 7, 3) := by decide +kernel
theorem dX7_next_28 : decode cX7_next 28 = .ok (.iload_n 1, 1) := by decide +kernel
theorem dX7_next_29 : decode cX7_next 29 = .ok (.baload, 1) := by decide +kernel
theorem dX7_next_30 : decode cX7_next 30 = .ok (.bipush 10, 2) := by decide +kernel
theorem dX7_next_32 : decode cX7_next 32 = .ok (.if_icmp .ne 9, 3) := by decide +kernel
theorem dX7_next_35 : decode cX7_next 35 = .ok (.iinc 1 1, 3) := by decide +kernel
theorem dX7_next_38 : decode cX7_next 38 = .ok (.goto (-33), 3) := by decide +kernel
theorem dX7_next_41 : decode cX7_next 41 = .ok (.aload_n 0, 1) := by decide +kernel
theorem dX7_next_42 : decode cX7_next 42 = .ok (.iload_n 1, 1) := by decide +kernel
theorem dX7_next_43 : decode cX7_next 43 = .ok (.putfield 23, 3) := by decide +kernel
theorem dX7_next_46 : decode cX7_next 46 = .ok (.iload_n 1, 1) := by decide +kernel
theorem dX7_next_47 : decode cX7_next 47 = .ok (.aload_n 0, 1) := by decide +kernel
theorem dX7_next_48 : decode cX7_next 48 = .ok (.getfield 13, 3) := by decide +kernel
theorem dX7_next_51 : decode cX7_next 51 = .ok (.if_icmp .lt 11, 3) := by decide +kernel
theorem dX7_next_54 : decode cX7_next 54 = .ok (.aload_n 0, 1) := by decide +kernel
theorem dX7_next_55 : decode cX7_next 55 = .ok (.iconst 0, 1) := by decide +kernel
theorem dX7_next_56 : decode cX7_next 56 = .ok (.putfield 26, 3) := by decide +kernel
theorem dX7_next_59 : decode cX7_next 59 = .ok (.goto 97, 3) := by decide +kernel
theorem dX7_next_62 : decode cX7_next 62 = .ok (.aload_n 0, 1) := by decide +kernel
theorem dX7_next_63 : decode cX7_next 63 = .ok (.getfield 7, 3) := by decide +kernel
theorem dX7_next_66 : decode cX7_next 66 = .ok (.iload_n 1, 1) := by decide +kernel
theorem dX7_next_67 : decode cX7_next 67 = .ok (.baload, 1) := by decide +kernel
theorem dX7_next_68 : decode cX7_next 68 = .ok (.invokestatic 29, 3) := by decide +kernel
theorem dX7_next_71 : decode cX7_next 71 = .ok (.ifCond .eq 34, 3) := by decide +kernel
theorem dX7_next_74 : decode cX7_next 74 = .ok (.aload_n 0, 1) := by decide +kernel
theorem dX7_next_75 : decode cX7_next 75 = .ok (.iconst 1, 1) := by decide +kernel
theorem dX7_next_76 : decode cX7_next 76 = .ok (.putfield 26, 3) := by decide +kernel
theorem dX7_next_79 : decode cX7_next 79 = .ok (.iload_n 1, 1) := by decide +kernel
theorem dX7_next_80 : decode cX7_next 80 = .ok (.aload_n 0, 1) := by decide +kernel
theorem dX7_next_81 : decode cX7_next 81 = .ok (.getfield 13, 3) := by decide +kernel
theorem dX7_next_84 : decode cX7_next 84 = .ok (.if_icmp .ge 72, 3) := by decide +kernel
theorem dX7_next_87 : decode cX7_next 87 = .ok (.aload_n 0, 1) := by decide +kernel
theorem dX7_next_88 : decode cX7_next 88 = .ok (.getfield 7, 3) := by decide +kernel
theorem dX7_next_91 : decode cX7_next 91 = .ok (.iload_n 1, 1) := by decide +kernel
theorem dX7_next_92 : decode cX7_next 92 = .ok (.baload, 1) := by decide +kernel
theorem dX7_next_93 : decode cX7_next 93 = .ok (.invokestatic 29, 3) := by decide +kernel
theorem dX7_next_96 : decode cX7_next 96 = .ok (.ifCond .eq 60, 3) := by decide +kernel
theorem dX7_next_99 : decode cX7_next 99 = .ok (.iinc 1 1, 3) := by decide +kernel
theorem dX7_next_102 : decode cX7_next 102 = .ok (.goto (-23), 3) := by decide +kernel
theorem dX7_next_105 : decode cX7_next 105 = .ok (.aload_n 0, 1) := by decide +kernel
theorem dX7_next_106 : decode cX7_next 106 = .ok (.getfield 7, 3) := by decide +kernel
theorem dX7_next_109 : decode cX7_next 109 = .ok (.iload_n 1, 1) := by decide +kernel
theorem dX7_next_110 : decode cX7_next 110 = .ok (.baload, 1) := by decide +kernel
theorem dX7_next_111 : decode cX7_next 111 = .ok (.invokestatic 35, 3) := by decide +kernel
theorem dX7_next_114 : decode cX7_next 114 = .ok (.ifCond .eq 34, 3) := by decide +kernel
theorem dX7_next_117 : decode cX7_next 117 = .ok (.aload_n 0, 1) := by decide +kernel
theorem dX7_next_118 : decode cX7_next 118 = .ok (.iconst 2, 1) := by decide +kernel
theorem dX7_next_119 : decode cX7_next 119 = .ok (.putfield 26, 3) := by decide +kernel
theorem dX7_next_122 : decode cX7_next 122 = .ok (.iload_n 1, 1) := by decide +kernel
theorem dX7_next_123 : decode cX7_next 123 = .ok (.aload_n 0, 1) := by decide +kernel
theorem dX7_next_124 : decode cX7_next 124 = .ok (.getfield 13, 3) := by decide +kernel
theorem dX7_next_127 : decode cX7_next 127 = .ok (.if_icmp .ge 29, 3) := by decide +kernel
theorem dX7_next_130 : decode cX7_next 130 = .ok (.aload_n 0, 1) := by decide +kernel
theorem dX7_next_131 : decode cX7_next 131 = .ok (.getfield 7, 3) := by decide +kernel
theorem dX7_next_134 : decode cX7_next 134 = .ok (.iload_n 1, 1) := by decide +kernel
theorem dX7_next_135 : decode cX7_next 135 = .ok (.baload, 1) := by decide +kernel
theorem dX7_next_136 : decode cX7_next 136 = .ok (.invokestatic 35, 3) := by decide +kernel
theorem dX7_next_139 : decode cX7_next 139 = .ok (.ifCond .eq 17, 3) := by decide +kernel
theorem dX7_next_142 : decode cX7_next 142 = .ok (.iinc 1 1, 3) := by decide +kernel
theorem dX7_next_145 : decode cX7_next 145 = .ok (.goto (-23), 3) := by decide +kernel
theorem dX7_next_148 : decode cX7_next 148 = .ok (.aload_n 0, 1) := by decide +kernel
theorem dX7_next_149 : decode cX7_next 149 = .ok (.iconst 3, 1) := by decide +kernel
theorem dX7_next_150 : decode cX7_next 150 = .ok (.putfield 26, 3) := by decide +kernel
theorem dX7_next_153 : decode cX7_next 153 = .ok (.iinc 1 1, 3) := by decide +kernel
theorem dX7_next_156 : decode cX7_next 156 = .ok (.aload_n 0, 1) := by decide +kernel
theorem dX7_next_157 : decode cX7_next 157 = .ok (.iload_n 1, 1) := by decide +kernel
theorem dX7_next_158 : decode cX7_next 158 = .ok (.putfield 17, 3) := by decide +kernel
theorem dX7_next_161 : decode cX7_next 161 = .ok (.return_, 1) := by decide +kernel
theorem dX7_isWord_0 : decode cX7_isWord 0 = .ok (.aload_n 0, 1) := by decide +kernel
theorem dX7_isWord_1 : decode cX7_isWord 1 = .ok (.getfield 26, 3) := by decide +kernel
theorem dX7_isWord_4 : decode cX7_isWord 4 = .ok (.iconst 1, 1) := by decide +kernel
theorem dX7_isWord_5 : decode cX7_isWord 5 = .ok (.if_icmp .ne 19, 3) := by decide +kernel
theorem dX7_isWord_8 : decode cX7_isWord 8 = .ok (.aload_n 1, 1) := by decide +kernel
theorem dX7_isWord_9 : decode cX7_isWord 9 = .ok (.invokevirtual 38, 3) := by decide +kernel
theorem dX7_isWord_12 : decode cX7_isWord 12 = .ok (.aload_n 0, 1) := by decide +kernel
theorem dX7_isWord_13 : decode cX7_isWord 13 = .ok (.getfield 17, 3) := by decide +kernel
theorem dX7_isWord_16 : decode cX7_isWord 16 = .ok (.aload_n 0, 1) := by decide +kernel
theorem dX7_isWord_17 : decode cX7_isWord 17 = .ok (.getfield 23, 3) := by decide +kernel
theorem dX7_isWord_20 : decode cX7_isWord 20 = .ok (.isub, 1) := by decide +kernel
theorem dX7_isWord_21 : decode cX7_isWord 21 = .ok (.if_icmp .eq 5, 3) := by decide +kernel
theorem dX7_isWord_24 : decode cX7_isWord 24 = .ok (.iconst 0, 1) := by decide +kernel
theorem dX7_isWord_25 : decode cX7_isWord 25 = .ok (.ireturn, 1) := by decide +kernel
theorem dX7_isWord_26 : decode cX7_isWord 26 = .ok (.iconst 0, 1) := by decide +kernel
theorem dX7_isWord_27 : decode cX7_isWord 27 = .ok (.istore_n 2, 1) := by decide +kernel
theorem dX7_isWord_28 : decode cX7_isWord 28 = .ok (.iload_n 2, 1) := by decide +kernel
theorem dX7_isWord_29 : decode cX7_isWord 29 = .ok (.aload_n 1, 1) := by decide +kernel
theorem dX7_isWord_30 : decode cX7_isWord 30 = .ok (.invokevirtual 38, 3) := by decide +kernel
theorem dX7_isWord_33 : decode cX7_isWord 33 = .ok (.if_icmp .ge 43, 3) := by decide +kernel
theorem dX7_isWord_36 : decode cX7_isWord 36 = .ok (.aload_n 0, 1) := by decide +kernel
theorem dX7_isWord_37 : decode cX7_isWord 37 = .ok (.getfield 23, 3) := by decide +kernel
theorem dX7_isWord_40 : decode cX7_isWord 40 = .ok (.iload_n 2, 1) := by decide +kernel
theorem dX7_isWord_41 : decode cX7_isWord 41 = .ok (.iadd, 1) := by decide +kernel
theorem dX7_isWord_42 : decode cX7_isWord 42 = .ok (.aload_n 0, 1) := by decide +kernel
theorem dX7_isWord_43 : decode cX7_isWord 43 = .ok (.getfield 13, 3) := by decide +kernel
theorem dX7_isWord_46 : decode cX7_isWord 46 = .ok (.if_icmp .ge 30, 3) := by decide +kernel
theorem dX7_isWord_49 : decode cX7_isWord 49 = .ok (.aload_n 1, 1) := by decide +kernel
theorem dX7_isWord_50 : decode cX7_isWord 50 = .ok (.iload_n 2, 1) := by decide +kernel
theorem dX7_isWord_51 : decode cX7_isWord 51 = .ok (.invokevirtual 43, 3) := by decide +kernel
theorem dX7_isWord_54 : decode cX7_isWord 54 = .ok (.aload_n 0, 1) := by decide +kernel
theorem dX7_isWord_55 : decode cX7_isWord 55 = .ok (.getfield 7, 3) := by decide +kernel
theorem dX7_isWord_58 : decode cX7_isWord 58 = .ok (.aload_n 0, 1) := by decide +kernel
theorem dX7_isWord_59 : decode cX7_isWord 59 = .ok (.getfield 23, 3) := by decide +kernel
theorem dX7_isWord_62 : decode cX7_isWord 62 = .ok (.iload_n 2, 1) := by decide +kernel
theorem dX7_isWord_63 : decode cX7_isWord 63 = .ok (.iadd, 1) := by decide +kernel
theorem dX7_isWord_64 : decode cX7_isWord 64 = .ok (.baload, 1) := by decide +kernel
theorem dX7_isWord_65 : decode cX7_isWord 65 = .ok (.if_icmp .eq 5, 3) := by decide +kernel
theorem dX7_isWord_68 : decode cX7_isWord 68 = .ok (.iconst 0, 1) := by decide +kernel
theorem dX7_isWord_69 : decode cX7_isWord 69 = .ok (.ireturn, 1) := by decide +kernel
theorem dX7_isWord_70 : decode cX7_isWord 70 = .ok (.iinc 2 1, 3) := by decide +kernel
theorem dX7_isWord_73 : decode cX7_isWord 73 = .ok (.goto (-45), 3) := by decide +kernel
theorem dX7_isWord_76 : decode cX7_isWord 76 = .ok (.iconst 1, 1) := by decide +kernel
theorem dX7_isWord_77 : decode cX7_isWord 77 = .ok (.ireturn, 1) := by decide +kernel
theorem dX7_isSemicolon_0 : decode cX7_isSemicolon 0 = .ok (.aload_n 0, 1) := by decide +kernel
theorem dX7_isSemicolon_1 : decode cX7_isSemicolon 1 = .ok (.getfield 26, 3) := by decide +kernel
theorem dX7_isSemicolon_4 : decode cX7_isSemicolon 4 = .ok (.iconst 3, 1) := by decide +kernel
theorem dX7_isSemicolon_5 : decode cX7_isSemicolon 5 = .ok (.if_icmp .ne 32, 3) := by decide +kernel
theorem dX7_isSemicolon_8 : decode cX7_isSemicolon 8 = .ok (.aload_n 0, 1) := by decide +kernel
theorem dX7_isSemicolon_9 : decode cX7_isSemicolon 9 = .ok (.getfield 23, 3) := by decide +kernel
theorem dX7_isSemicolon_12 : decode cX7_isSemicolon 12 = .ok (.aload_n 0, 1) := by decide +kernel
theorem dX7_isSemicolon_13 : decode cX7_isSemicolon 13 = .ok (.getfield 13, 3) := by decide +kernel
theorem dX7_isSemicolon_16 : decode cX7_isSemicolon 16 = .ok (.if_icmp .ge 21, 3) := by decide +kernel
theorem dX7_isSemicolon_19 : decode cX7_isSemicolon 19 = .ok (.aload_n 0, 1) := by decide +kernel
theorem dX7_isSemicolon_20 : decode cX7_isSemicolon 20 = .ok (.getfield 7, 3) := by decide +kernel
theorem dX7_isSemicolon_23 : decode cX7_isSemicolon 23 = .ok (.aload_n 0, 1) := by decide +kernel
theorem dX7_isSemicolon_24 : decode cX7_isSemicolon 24 = .ok (.getfield 23, 3) := by decide +kernel
theorem dX7_isSemicolon_27 : decode cX7_isSemicolon 27 = .ok (.baload, 1) := by decide +kernel
theorem dX7_isSemicolon_28 : decode cX7_isSemicolon 28 = .ok (.bipush 59, 2) := by decide +kernel
theorem dX7_isSemicolon_30 : decode cX7_isSemicolon 30 = .ok (.if_icmp .ne 7, 3) := by decide +kernel
theorem dX7_isSemicolon_33 : decode cX7_isSemicolon 33 = .ok (.iconst 1, 1) := by decide +kernel
theorem dX7_isSemicolon_34 : decode cX7_isSemicolon 34 = .ok (.goto 4, 3) := by decide +kernel
theorem dX7_isSemicolon_37 : decode cX7_isSemicolon 37 = .ok (.iconst 0, 1) := by decide +kernel
theorem dX7_isSemicolon_38 : decode cX7_isSemicolon 38 = .ok (.ireturn, 1) := by decide +kernel
theorem dX7_name_0 : decode cX7_name 0 = .ok (.aload_n 0, 1) := by decide +kernel
theorem dX7_name_1 : decode cX7_name 1 = .ok (.getfield 7, 3) := by decide +kernel
theorem dX7_name_4 : decode cX7_name 4 = .ok (.aload_n 0, 1) := by decide +kernel
theorem dX7_name_5 : decode cX7_name 5 = .ok (.getfield 23, 3) := by decide +kernel
theorem dX7_name_8 : decode cX7_name 8 = .ok (.aload_n 0, 1) := by decide +kernel
theorem dX7_name_9 : decode cX7_name 9 = .ok (.getfield 17, 3) := by decide +kernel
theorem dX7_name_12 : decode cX7_name 12 = .ok (.invokestatic 47, 3) := by decide +kernel
theorem dX7_name_15 : decode cX7_name 15 = .ok (.ireturn, 1) := by decide +kernel
theorem dX7_value_0 : decode cX7_value 0 = .ok (.iconst 0, 1) := by decide +kernel
theorem dX7_value_1 : decode cX7_value 1 = .ok (.istore_n 1, 1) := by decide +kernel
theorem dX7_value_2 : decode cX7_value 2 = .ok (.aload_n 0, 1) := by decide +kernel
theorem dX7_value_3 : decode cX7_value 3 = .ok (.getfield 23, 3) := by decide +kernel
theorem dX7_value_6 : decode cX7_value 6 = .ok (.istore_n 2, 1) := by decide +kernel
theorem dX7_value_7 : decode cX7_value 7 = .ok (.iload_n 2, 1) := by decide +kernel
theorem dX7_value_8 : decode cX7_value 8 = .ok (.aload_n 0, 1) := by decide +kernel
theorem dX7_value_9 : decode cX7_value 9 = .ok (.getfield 17, 3) := by decide +kernel
theorem dX7_value_12 : decode cX7_value 12 = .ok (.if_icmp .ge 41, 3) := by decide +kernel
theorem dX7_value_15 : decode cX7_value 15 = .ok (.iload_n 2, 1) := by decide +kernel
theorem dX7_value_16 : decode cX7_value 16 = .ok (.aload_n 0, 1) := by decide +kernel
theorem dX7_value_17 : decode cX7_value 17 = .ok (.getfield 13, 3) := by decide +kernel
theorem dX7_value_20 : decode cX7_value 20 = .ok (.if_icmp .ge 33, 3) := by decide +kernel
theorem dX7_value_23 : decode cX7_value 23 = .ok (.iload_n 1, 1) := by decide +kernel
theorem dX7_value_24 : decode cX7_value 24 = .ok (.bipush 10, 2) := by decide +kernel
theorem dX7_value_26 : decode cX7_value 26 = .ok (.imul, 1) := by decide +kernel
theorem dX7_value_27 : decode cX7_value 27 = .ok (.aload_n 0, 1) := by decide +kernel
theorem dX7_value_28 : decode cX7_value 28 = .ok (.getfield 7, 3) := by decide +kernel
theorem dX7_value_31 : decode cX7_value 31 = .ok (.iload_n 2, 1) := by decide +kernel
theorem dX7_value_32 : decode cX7_value 32 = .ok (.baload, 1) := by decide +kernel
theorem dX7_value_33 : decode cX7_value 33 = .ok (.iadd, 1) := by decide +kernel
theorem dX7_value_34 : decode cX7_value 34 = .ok (.bipush 48, 2) := by decide +kernel
theorem dX7_value_36 : decode cX7_value 36 = .ok (.isub, 1) := by decide +kernel
theorem dX7_value_37 : decode cX7_value 37 = .ok (.istore_n 1, 1) := by decide +kernel
theorem dX7_value_38 : decode cX7_value 38 = .ok (.iload_n 1, 1) := by decide +kernel
theorem dX7_value_39 : decode cX7_value 39 = .ok (.ldc 51, 2) := by decide +kernel
theorem dX7_value_41 : decode cX7_value 41 = .ok (.if_icmp .le 6, 3) := by decide +kernel
theorem dX7_value_44 : decode cX7_value 44 = .ok (.ldc 51, 2) := by decide +kernel
theorem dX7_value_46 : decode cX7_value 46 = .ok (.istore_n 1, 1) := by decide +kernel
theorem dX7_value_47 : decode cX7_value 47 = .ok (.iinc 2 1, 3) := by decide +kernel
theorem dX7_value_50 : decode cX7_value 50 = .ok (.goto (-43), 3) := by decide +kernel
theorem dX7_value_53 : decode cX7_value 53 = .ok (.iload_n 1, 1) := by decide +kernel
theorem dX7_value_54 : decode cX7_value 54 = .ok (.ireturn, 1) := by decide +kernel
theorem dX8_init_0 : decode cX8_init 0 = .ok (.aload_n 0, 1) := by decide +kernel
theorem dX8_init_1 : decode cX8_init 1 = .ok (.invokespecial 1, 3) := by decide +kernel
theorem dX8_init_4 : decode cX8_init 4 = .ok (.aload_n 0, 1) := by decide +kernel
theorem dX8_init_5 : decode cX8_init 5 = .ok (.new 7, 3) := by decide +kernel
theorem dX8_init_8 : decode cX8_init 8 = .ok (.dup, 1) := by decide +kernel
theorem dX8_init_9 : decode cX8_init 9 = .ok (.invokespecial 9, 3) := by decide +kernel
theorem dX8_init_12 : decode cX8_init 12 = .ok (.putfield 10, 3) := by decide +kernel
theorem dX8_init_15 : decode cX8_init 15 = .ok (.aload_n 0, 1) := by decide +kernel
theorem dX8_init_16 : decode cX8_init 16 = .ok (.new 7, 3) := by decide +kernel
theorem dX8_init_19 : decode cX8_init 19 = .ok (.dup, 1) := by decide +kernel
theorem dX8_init_20 : decode cX8_init 20 = .ok (.invokespecial 9, 3) := by decide +kernel
theorem dX8_init_23 : decode cX8_init 23 = .ok (.putfield 16, 3) := by decide +kernel
theorem dX8_init_26 : decode cX8_init 26 = .ok (.aload_n 0, 1) := by decide +kernel
theorem dX8_init_27 : decode cX8_init 27 = .ok (.new 19, 3) := by decide +kernel
theorem dX8_init_30 : decode cX8_init 30 = .ok (.dup, 1) := by decide +kernel
theorem dX8_init_31 : decode cX8_init 31 = .ok (.invokespecial 21, 3) := by decide +kernel
theorem dX8_init_34 : decode cX8_init 34 = .ok (.putfield 22, 3) := by decide +kernel
theorem dX8_init_37 : decode cX8_init 37 = .ok (.aload_n 0, 1) := by decide +kernel
theorem dX8_init_38 : decode cX8_init 38 = .ok (.sipush 600, 3) := by decide +kernel
theorem dX8_init_41 : decode cX8_init 41 = .ok (.newarray .byte, 2) := by decide +kernel
theorem dX8_init_43 : decode cX8_init 43 = .ok (.putfield 26, 3) := by decide +kernel
theorem dX8_init_46 : decode cX8_init 46 = .ok (.aload_n 0, 1) := by decide +kernel
theorem dX8_init_47 : decode cX8_init 47 = .ok (.new 30, 3) := by decide +kernel
theorem dX8_init_50 : decode cX8_init 50 = .ok (.dup, 1) := by decide +kernel
theorem dX8_init_51 : decode cX8_init 51 = .ok (.aload_n 0, 1) := by decide +kernel
theorem dX8_init_52 : decode cX8_init 52 = .ok (.getfield 26, 3) := by decide +kernel
theorem dX8_init_55 : decode cX8_init 55 = .ok (.aload_n 0, 1) := by decide +kernel
theorem dX8_init_56 : decode cX8_init 56 = .ok (.getfield 22, 3) := by decide +kernel
theorem dX8_init_59 : decode cX8_init 59 = .ok (.invokespecial 32, 3) := by decide +kernel
theorem dX8_init_62 : decode cX8_init 62 = .ok (.putfield 35, 3) := by decide +kernel
theorem dX8_init_65 : decode cX8_init 65 = .ok (.aload_n 0, 1) := by decide +kernel
theorem dX8_init_66 : decode cX8_init 66 = .ok (.bipush 120, 2) := by decide +kernel
theorem dX8_init_68 : decode cX8_init 68 = .ok (.newarray .byte, 2) := by decide +kernel
theorem dX8_init_70 : decode cX8_init 70 = .ok (.putfield 39, 3) := by decide +kernel
theorem dX8_init_73 : decode cX8_init 73 = .ok (.aload_n 0, 1) := by decide +kernel
theorem dX8_init_74 : decode cX8_init 74 = .ok (.iconst 2, 1) := by decide +kernel
theorem dX8_init_75 : decode cX8_init 75 = .ok (.anewarray 7, 3) := by decide +kernel
theorem dX8_init_78 : decode cX8_init 78 = .ok (.putfield 42, 3) := by decide +kernel
theorem dX8_init_81 : decode cX8_init 81 = .ok (.aload_n 0, 1) := by decide +kernel
theorem dX8_init_82 : decode cX8_init 82 = .ok (.bipush 8, 2) := by decide +kernel
theorem dX8_init_84 : decode cX8_init 84 = .ok (.anewarray 7, 3) := by decide +kernel
theorem dX8_init_87 : decode cX8_init 87 = .ok (.putfield 46, 3) := by decide +kernel
theorem dX8_init_90 : decode cX8_init 90 = .ok (.ldc 49, 2) := by decide +kernel
theorem dX8_init_92 : decode cX8_init 92 = .ok (.invokevirtual 51, 3) := by decide +kernel
theorem dX8_init_95 : decode cX8_init 95 = .ok (.istore_n 1, 1) := by decide +kernel
theorem dX8_init_96 : decode cX8_init 96 = .ok (.iconst 0, 1) := by decide +kernel
theorem dX8_init_97 : decode cX8_init 97 = .ok (.istore_n 2, 1) := by decide +kernel
theorem dX8_init_98 : decode cX8_init 98 = .ok (.iload_n 2, 1) := by decide +kernel
theorem dX8_init_99 : decode cX8_init 99 = .ok (.iload_n 1, 1) := by decide +kernel
theorem dX8_init_100 : decode cX8_init 100 = .ok (.if_icmp .ge 29, 3) := by decide +kernel
theorem dX8_init_103 : decode cX8_init 103 = .ok (.iload_n 2, 1) := by decide +kernel
theorem dX8_init_104 : decode cX8_init 104 = .ok (.sipush 600, 3) := by decide +kernel
theorem dX8_init_107 : decode cX8_init 107 = .ok (.if_icmp .ge 22, 3) := by decide +kernel
theorem dX8_init_110 : decode cX8_init 110 = .ok (.aload_n 0, 1) := by decide +kernel
theorem dX8_init_111 : decode cX8_init 111 = .ok (.getfield 26, 3) := by decide +kernel
theorem dX8_init_114 : decode cX8_init 114 = .ok (.iload_n 2, 1) := by decide +kernel
theorem dX8_init_115 : decode cX8_init 115 = .ok (.ldc 49, 2) := by decide +kernel
theorem dX8_init_117 : decode cX8_init 117 = .ok (.iload_n 2, 1) := by decide +kernel
theorem dX8_init_118 : decode cX8_init 118 = .ok (.invokevirtual 57, 3) := by decide +kernel
theorem dX8_init_121 : decode cX8_init 121 = .ok (.i2b, 1) := by decide +kernel
theorem dX8_init_122 : decode cX8_init 122 = .ok (.bastore, 1) := by decide +kernel
theorem dX8_init_123 : decode cX8_init 123 = .ok (.iinc 2 1, 3) := by decide +kernel
theorem dX8_init_126 : decode cX8_init 126 = .ok (.goto (-28), 3) := by decide +kernel
theorem dX8_init_129 : decode cX8_init 129 = .ok (.aload_n 0, 1) := by decide +kernel
theorem dX8_init_130 : decode cX8_init 130 = .ok (.getfield 35, 3) := by decide +kernel
theorem dX8_init_133 : decode cX8_init 133 = .ok (.iload_n 1, 1) := by decide +kernel
theorem dX8_init_134 : decode cX8_init 134 = .ok (.aload_n 0, 1) := by decide +kernel
theorem dX8_init_135 : decode cX8_init 135 = .ok (.getfield 10, 3) := by decide +kernel
theorem dX8_init_138 : decode cX8_init 138 = .ok (.invokevirtual 61, 3) := by decide +kernel
theorem dX8_init_141 : decode cX8_init 141 = .ok (.aload_n 0, 1) := by decide +kernel
theorem dX8_init_142 : decode cX8_init 142 = .ok (.iconst (-1), 1) := by decide +kernel
theorem dX8_init_143 : decode cX8_init 143 = .ok (.putfield 65, 3) := by decide +kernel
theorem dX8_init_146 : decode cX8_init 146 = .ok (.return_, 1) := by decide +kernel
theorem dX8_appendInput_0 : decode cX8_appendInput 0 = .ok (.aload_n 0, 1) := by decide +kernel
theorem dX8_appendInput_1 : decode cX8_appendInput 1 = .ok (.getfield 69, 3) := by decide +kernel
theorem dX8_appendInput_4 : decode cX8_appendInput 4 = .ok (.sipush 580, 3) := by decide +kernel
theorem dX8_appendInput_7 : decode cX8_appendInput 7 = .ok (.if_icmp .le 13, 3) := by decide +kernel
theorem dX8_appendInput_10 : decode cX8_appendInput 10 = .ok (.new 72, 3) := by decide +kernel
theorem dX8_appendInput_13 : decode cX8_appendInput 13 = .ok (.dup, 1) := by decide +kernel
theorem dX8_appendInput_14 : decode cX8_appendInput 14 = .ok (.ldc 74, 2) := by decide +kernel
theorem dX8_appendInput_16 : decode cX8_appendInput 16 = .ok (.invokespecial 76, 3) := by decide +kernel
theorem dX8_appendInput_19 : decode cX8_appendInput 19 = .ok (.athrow, 1) := by decide +kernel
theorem dX8_appendInput_20 : decode cX8_appendInput 20 = .ok (.aload_n 0, 1) := by decide +kernel
theorem dX8_appendInput_21 : decode cX8_appendInput 21 = .ok (.iload_n 1, 1) := by decide +kernel
theorem dX8_appendInput_22 : decode cX8_appendInput 22 = .ok (.invokevirtual 79, 3) := by decide +kernel
theorem dX8_appendInput_25 : decode cX8_appendInput 25 = .ok (.aload_n 0, 1) := by decide +kernel
theorem dX8_appendInput_26 : decode cX8_appendInput 26 = .ok (.iload_n 2, 1) := by decide +kernel
theorem dX8_appendInput_27 : decode cX8_appendInput 27 = .ok (.invokevirtual 79, 3) := by decide +kernel
theorem dX8_appendInput_30 : decode cX8_appendInput 30 = .ok (.aload_n 0, 1) := by decide +kernel
theorem dX8_appendInput_31 : decode cX8_appendInput 31 = .ok (.iload_n 3, 1) := by decide +kernel
theorem dX8_appendInput_32 : decode cX8_appendInput 32 = .ok (.invokevirtual 79, 3) := by decide +kernel
theorem dX8_appendInput_35 : decode cX8_appendInput 35 = .ok (.aload_n 0, 1) := by decide +kernel
theorem dX8_appendInput_36 : decode cX8_appendInput 36 = .ok (.iload 4, 2) := by decide +kernel
theorem dX8_appendInput_38 : decode cX8_appendInput 38 = .ok (.invokevirtual 79, 3) := by decide +kernel
theorem dX8_appendInput_41 : decode cX8_appendInput 41 = .ok (.aload_n 0, 1) := by decide +kernel
theorem dX8_appendInput_42 : decode cX8_appendInput 42 = .ok (.iload 5, 2) := by decide +kernel
theorem dX8_appendInput_44 : decode cX8_appendInput 44 = .ok (.invokevirtual 79, 3) := by decide +kernel
theorem dX8_appendInput_47 : decode cX8_appendInput 47 = .ok (.aload_n 0, 1) := by decide +kernel
theorem dX8_appendInput_48 : decode cX8_appendInput 48 = .ok (.getfield 69, 3) := by decide +kernel
theorem dX8_appendInput_51 : decode cX8_appendInput 51 = .ok (.ireturn, 1) := by decide +kernel
theorem dX8_truncateInput_0 : decode cX8_truncateInput 0 = .ok (.iload_n 1, 1) := by decide +kernel
theorem dX8_truncateInput_1 : decode cX8_truncateInput 1 = .ok (.iconst 0, 1) := by decide +kernel
theorem dX8_truncateInput_2 : decode cX8_truncateInput 2 = .ok (.aload_n 0, 1) := by decide +kernel
theorem dX8_truncateInput_3 : decode cX8_truncateInput 3 = .ok (.getfield 69, 3) := by decide +kernel
theorem dX8_truncateInput_6 : decode cX8_truncateInput 6 = .ok (.invokestatic 83, 3) := by decide +kernel
theorem dX8_truncateInput_9 : decode cX8_truncateInput 9 = .ok (.aload_n 0, 1) := by decide +kernel
theorem dX8_truncateInput_10 : decode cX8_truncateInput 10 = .ok (.iload_n 1, 1) := by decide +kernel
theorem dX8_truncateInput_11 : decode cX8_truncateInput 11 = .ok (.putfield 69, 3) := by decide +kernel
theorem dX8_truncateInput_14 : decode cX8_truncateInput 14 = .ok (.aload_n 0, 1) := by decide +kernel
theorem dX8_truncateInput_15 : decode cX8_truncateInput 15 = .ok (.getfield 69, 3) := by decide +kernel
theorem dX8_truncateInput_18 : decode cX8_truncateInput 18 = .ok (.ireturn, 1) := by decide +kernel
theorem dX8_load_0 : decode cX8_load 0 = .ok (.aload_n 0, 1) := by decide +kernel
theorem dX8_load_1 : decode cX8_load 1 = .ok (.getfield 35, 3) := by decide +kernel
theorem dX8_load_4 : decode cX8_load 4 = .ok (.aload_n 0, 1) := by decide +kernel
theorem dX8_load_5 : decode cX8_load 5 = .ok (.getfield 69, 3) := by decide +kernel
theorem dX8_load_8 : decode cX8_load 8 = .ok (.aload_n 0, 1) := by decide +kernel
theorem dX8_load_9 : decode cX8_load 9 = .ok (.getfield 16, 3) := by decide +kernel
theorem dX8_load_12 : decode cX8_load 12 = .ok (.invokevirtual 61, 3) := by decide +kernel
theorem dX8_load_15 : decode cX8_load 15 = .ok (.aload_n 0, 1) := by decide +kernel
theorem dX8_load_16 : decode cX8_load 16 = .ok (.iconst 0, 1) := by decide +kernel
theorem dX8_load_17 : decode cX8_load 17 = .ok (.putfield 69, 3) := by decide +kernel
theorem dX8_load_20 : decode cX8_load 20 = .ok (.aload_n 0, 1) := by decide +kernel
theorem dX8_load_21 : decode cX8_load 21 = .ok (.aload_n 0, 1) := by decide +kernel
theorem dX8_load_22 : decode cX8_load 22 = .ok (.getfield 35, 3) := by decide +kernel
theorem dX8_load_25 : decode cX8_load 25 = .ok (.getfield 87, 3) := by decide +kernel
theorem dX8_load_28 : decode cX8_load 28 = .ok (.putfield 90, 3) := by decide +kernel
theorem dX8_load_31 : decode cX8_load 31 = .ok (.aload_n 0, 1) := by decide +kernel
theorem dX8_load_32 : decode cX8_load 32 = .ok (.aload_n 0, 1) := by decide +kernel
theorem dX8_load_33 : decode cX8_load 33 = .ok (.getfield 35, 3) := by decide +kernel
theorem dX8_load_36 : decode cX8_load 36 = .ok (.getfield 93, 3) := by decide +kernel
theorem dX8_load_39 : decode cX8_load 39 = .ok (.putfield 65, 3) := by decide +kernel
theorem dX8_load_42 : decode cX8_load 42 = .ok (.aload_n 0, 1) := by decide +kernel
theorem dX8_load_43 : decode cX8_load 43 = .ok (.getfield 90, 3) := by decide +kernel
theorem dX8_load_46 : decode cX8_load 46 = .ok (.ifCond .eq 13, 3) := by decide +kernel
theorem dX8_load_49 : decode cX8_load 49 = .ok (.new 96, 3) := by decide +kernel
theorem dX8_load_52 : decode cX8_load 52 = .ok (.dup, 1) := by decide +kernel
theorem dX8_load_53 : decode cX8_load 53 = .ok (.ldc 98, 2) := by decide +kernel
theorem dX8_load_55 : decode cX8_load 55 = .ok (.invokespecial 100, 3) := by decide +kernel
theorem dX8_load_58 : decode cX8_load 58 = .ok (.athrow, 1) := by decide +kernel
theorem dX8_load_59 : decode cX8_load 59 = .ok (.aload_n 0, 1) := by decide +kernel
theorem dX8_load_60 : decode cX8_load 60 = .ok (.invokevirtual 101, 3) := by decide +kernel
theorem dX8_load_63 : decode cX8_load 63 = .ok (.aload_n 0, 1) := by decide +kernel
theorem dX8_load_64 : decode cX8_load 64 = .ok (.getfield 10, 3) := by decide +kernel
theorem dX8_load_67 : decode cX8_load 67 = .ok (.aload_n 0, 1) := by decide +kernel
theorem dX8_load_68 : decode cX8_load 68 = .ok (.getfield 16, 3) := by decide +kernel
theorem dX8_load_71 : decode cX8_load 71 = .ok (.invokevirtual 104, 3) := by decide +kernel
theorem dX8_load_74 : decode cX8_load 74 = .ok (.aload_n 0, 1) := by decide +kernel
theorem dX8_load_75 : decode cX8_load 75 = .ok (.getfield 10, 3) := by decide +kernel
theorem dX8_load_78 : decode cX8_load 78 = .ok (.getfield 108, 3) := by decide +kernel
theorem dX8_load_81 : decode cX8_load 81 = .ok (.getfield 112, 3) := by decide +kernel
theorem dX8_load_84 : decode cX8_load 84 = .ok (.ireturn, 1) := by decide +kernel
theorem dX8_errorCode_0 : decode cX8_errorCode 0 = .ok (.aload_n 0, 1) := by decide +kernel
theorem dX8_errorCode_1 : decode cX8_errorCode 1 = .ok (.getfield 90, 3) := by decide +kernel
theorem dX8_errorCode_4 : decode cX8_errorCode 4 = .ok (.ireturn, 1) := by decide +kernel
theorem dX8_hour_0 : decode cX8_hour 0 = .ok (.aload_n 0, 1) := by decide +kernel
theorem dX8_hour_1 : decode cX8_hour 1 = .ok (.getfield 10, 3) := by decide +kernel
theorem dX8_hour_4 : decode cX8_hour 4 = .ok (.getfield 117, 3) := by decide +kernel
theorem dX8_hour_7 : decode cX8_hour 7 = .ok (.ireturn, 1) := by decide +kernel
theorem dX8_customerCount_0 : decode cX8_customerCount 0 = .ok (.aload_n 0, 1) := by decide +kernel
theorem dX8_customerCount_1 : decode cX8_customerCount 1 = .ok (.getfield 10, 3) := by decide +kernel
theorem dX8_customerCount_4 : decode cX8_customerCount 4 = .ok (.getfield 108, 3) := by decide +kernel
theorem dX8_customerCount_7 : decode cX8_customerCount 7 = .ok (.getfield 112, 3) := by decide +kernel
theorem dX8_customerCount_10 : decode cX8_customerCount 10 = .ok (.ireturn, 1) := by decide +kernel
theorem dX8_loafCount_0 : decode cX8_loafCount 0 = .ok (.aload_n 0, 1) := by decide +kernel
theorem dX8_loafCount_1 : decode cX8_loafCount 1 = .ok (.getfield 10, 3) := by decide +kernel
theorem dX8_loafCount_4 : decode cX8_loafCount 4 = .ok (.getfield 127, 3) := by decide +kernel
theorem dX8_loafCount_7 : decode cX8_loafCount 7 = .ok (.getfield 131, 3) := by decide +kernel
theorem dX8_loafCount_10 : decode cX8_loafCount 10 = .ok (.ireturn, 1) := by decide +kernel
theorem dX8_crumbs_0 : decode cX8_crumbs 0 = .ok (.aload_n 0, 1) := by decide +kernel
theorem dX8_crumbs_1 : decode cX8_crumbs 1 = .ok (.getfield 10, 3) := by decide +kernel
theorem dX8_crumbs_4 : decode cX8_crumbs 4 = .ok (.getfield 134, 3) := by decide +kernel
theorem dX8_crumbs_7 : decode cX8_crumbs 7 = .ok (.ireturn, 1) := by decide +kernel
theorem dX8_sparrows_0 : decode cX8_sparrows 0 = .ok (.aload_n 0, 1) := by decide +kernel
theorem dX8_sparrows_1 : decode cX8_sparrows 1 = .ok (.getfield 10, 3) := by decide +kernel
theorem dX8_sparrows_4 : decode cX8_sparrows 4 = .ok (.getfield 137, 3) := by decide +kernel
theorem dX8_sparrows_7 : decode cX8_sparrows 7 = .ok (.ireturn, 1) := by decide +kernel
theorem dX8_ovenSize_0 : decode cX8_ovenSize 0 = .ok (.aload_n 0, 1) := by decide +kernel
theorem dX8_ovenSize_1 : decode cX8_ovenSize 1 = .ok (.iload_n 1, 1) := by decide +kernel
theorem dX8_ovenSize_2 : decode cX8_ovenSize 2 = .ok (.invokevirtual 140, 3) := by decide +kernel
theorem dX8_ovenSize_5 : decode cX8_ovenSize 5 = .ok (.aload_n 0, 1) := by decide +kernel
theorem dX8_ovenSize_6 : decode cX8_ovenSize 6 = .ok (.getfield 10, 3) := by decide +kernel
theorem dX8_ovenSize_9 : decode cX8_ovenSize 9 = .ok (.getfield 120, 3) := by decide +kernel
theorem dX8_ovenSize_12 : decode cX8_ovenSize 12 = .ok (.getfield 151, 3) := by decide +kernel
theorem dX8_ovenSize_15 : decode cX8_ovenSize 15 = .ok (.iload_n 1, 1) := by decide +kernel
theorem dX8_ovenSize_16 : decode cX8_ovenSize 16 = .ok (.iaload, 1) := by decide +kernel
theorem dX8_ovenSize_17 : decode cX8_ovenSize 17 = .ok (.ireturn, 1) := by decide +kernel
theorem dX8_bakingKind_0 : decode cX8_bakingKind 0 = .ok (.aload_n 0, 1) := by decide +kernel
theorem dX8_bakingKind_1 : decode cX8_bakingKind 1 = .ok (.iload_n 1, 1) := by decide +kernel
theorem dX8_bakingKind_2 : decode cX8_bakingKind 2 = .ok (.invokevirtual 140, 3) := by decide +kernel
theorem dX8_bakingKind_5 : decode cX8_bakingKind 5 = .ok (.aload_n 0, 1) := by decide +kernel
theorem dX8_bakingKind_6 : decode cX8_bakingKind 6 = .ok (.getfield 10, 3) := by decide +kernel
theorem dX8_bakingKind_9 : decode cX8_bakingKind 9 = .ok (.getfield 120, 3) := by decide +kernel
theorem dX8_bakingKind_12 : decode cX8_bakingKind 12 = .ok (.getfield 154, 3) := by decide +kernel
theorem dX8_bakingKind_15 : decode cX8_bakingKind 15 = .ok (.iload_n 1, 1) := by decide +kernel
theorem dX8_bakingKind_16 : decode cX8_bakingKind 16 = .ok (.iaload, 1) := by decide +kernel
theorem dX8_bakingKind_17 : decode cX8_bakingKind 17 = .ok (.ireturn, 1) := by decide +kernel
theorem dX8_hoursLeft_0 : decode cX8_hoursLeft 0 = .ok (.aload_n 0, 1) := by decide +kernel
theorem dX8_hoursLeft_1 : decode cX8_hoursLeft 1 = .ok (.iload_n 1, 1) := by decide +kernel
theorem dX8_hoursLeft_2 : decode cX8_hoursLeft 2 = .ok (.invokevirtual 140, 3) := by decide +kernel
theorem dX8_hoursLeft_5 : decode cX8_hoursLeft 5 = .ok (.aload_n 0, 1) := by decide +kernel
theorem dX8_hoursLeft_6 : decode cX8_hoursLeft 6 = .ok (.getfield 10, 3) := by decide +kernel
theorem dX8_hoursLeft_9 : decode cX8_hoursLeft 9 = .ok (.getfield 120, 3) := by decide +kernel
theorem dX8_hoursLeft_12 : decode cX8_hoursLeft 12 = .ok (.getfield 157, 3) := by decide +kernel
theorem dX8_hoursLeft_15 : decode cX8_hoursLeft 15 = .ok (.iload_n 1, 1) := by decide +kernel
theorem dX8_hoursLeft_16 : decode cX8_hoursLeft 16 = .ok (.iaload, 1) := by decide +kernel
theorem dX8_hoursLeft_17 : decode cX8_hoursLeft 17 = .ok (.ireturn, 1) := by decide +kernel
theorem dX8_income_0 : decode cX8_income 0 = .ok (.aload_n 0, 1) := by decide +kernel
theorem dX8_income_1 : decode cX8_income 1 = .ok (.iload_n 1, 1) := by decide +kernel
theorem dX8_income_2 : decode cX8_income 2 = .ok (.invokevirtual 140, 3) := by decide +kernel
theorem dX8_income_5 : decode cX8_income 5 = .ok (.aload_n 0, 1) := by decide +kernel
theorem dX8_income_6 : decode cX8_income 6 = .ok (.getfield 10, 3) := by decide +kernel
theorem dX8_income_9 : decode cX8_income 9 = .ok (.getfield 120, 3) := by decide +kernel
theorem dX8_income_12 : decode cX8_income 12 = .ok (.getfield 160, 3) := by decide +kernel
theorem dX8_income_15 : decode cX8_income 15 = .ok (.iload_n 1, 1) := by decide +kernel
theorem dX8_income_16 : decode cX8_income 16 = .ok (.iaload, 1) := by decide +kernel
theorem dX8_income_17 : decode cX8_income 17 = .ok (.ireturn, 1) := by decide +kernel
theorem dX8_ticketOf_0 : decode cX8_ticketOf 0 = .ok (.aload_n 0, 1) := by decide +kernel
theorem dX8_ticketOf_1 : decode cX8_ticketOf 1 = .ok (.iload_n 1, 1) := by decide +kernel
theorem dX8_ticketOf_2 : decode cX8_ticketOf 2 = .ok (.invokevirtual 170, 3) := by decide +kernel
theorem dX8_ticketOf_5 : decode cX8_ticketOf 5 = .ok (.aload_n 0, 1) := by decide +kernel
theorem dX8_ticketOf_6 : decode cX8_ticketOf 6 = .ok (.getfield 10, 3) := by decide +kernel
theorem dX8_ticketOf_9 : decode cX8_ticketOf 9 = .ok (.getfield 108, 3) := by decide +kernel
theorem dX8_ticketOf_12 : decode cX8_ticketOf 12 = .ok (.getfield 174, 3) := by decide +kernel
theorem dX8_ticketOf_15 : decode cX8_ticketOf 15 = .ok (.iload_n 1, 1) := by decide +kernel
theorem dX8_ticketOf_16 : decode cX8_ticketOf 16 = .ok (.iaload, 1) := by decide +kernel
theorem dX8_ticketOf_17 : decode cX8_ticketOf 17 = .ok (.ireturn, 1) := by decide +kernel
theorem dX8_kindWanted_0 : decode cX8_kindWanted 0 = .ok (.aload_n 0, 1) := by decide +kernel
theorem dX8_kindWanted_1 : decode cX8_kindWanted 1 = .ok (.iload_n 1, 1) := by decide +kernel
theorem dX8_kindWanted_2 : decode cX8_kindWanted 2 = .ok (.invokevirtual 170, 3) := by decide +kernel
theorem dX8_kindWanted_5 : decode cX8_kindWanted 5 = .ok (.aload_n 0, 1) := by decide +kernel
theorem dX8_kindWanted_6 : decode cX8_kindWanted 6 = .ok (.getfield 10, 3) := by decide +kernel
theorem dX8_kindWanted_9 : decode cX8_kindWanted 9 = .ok (.getfield 108, 3) := by decide +kernel
theorem dX8_kindWanted_12 : decode cX8_kindWanted 12 = .ok (.getfield 177, 3) := by decide +kernel
theorem dX8_kindWanted_15 : decode cX8_kindWanted 15 = .ok (.iload_n 1, 1) := by decide +kernel
theorem dX8_kindWanted_16 : decode cX8_kindWanted 16 = .ok (.iaload, 1) := by decide +kernel
theorem dX8_kindWanted_17 : decode cX8_kindWanted 17 = .ok (.ireturn, 1) := by decide +kernel
theorem dX8_wanted_0 : decode cX8_wanted 0 = .ok (.aload_n 0, 1) := by decide +kernel
theorem dX8_wanted_1 : decode cX8_wanted 1 = .ok (.iload_n 1, 1) := by decide +kernel
theorem dX8_wanted_2 : decode cX8_wanted 2 = .ok (.invokevirtual 170, 3) := by decide +kernel
theorem dX8_wanted_5 : decode cX8_wanted 5 = .ok (.aload_n 0, 1) := by decide +kernel
theorem dX8_wanted_6 : decode cX8_wanted 6 = .ok (.getfield 10, 3) := by decide +kernel
theorem dX8_wanted_9 : decode cX8_wanted 9 = .ok (.getfield 108, 3) := by decide +kernel
theorem dX8_wanted_12 : decode cX8_wanted 12 = .ok (.getfield 178, 3) := by decide +kernel
theorem dX8_wanted_15 : decode cX8_wanted 15 = .ok (.iload_n 1, 1) := by decide +kernel
theorem dX8_wanted_16 : decode cX8_wanted 16 = .ok (.iaload, 1) := by decide +kernel
theorem dX8_wanted_17 : decode cX8_wanted 17 = .ok (.ireturn, 1) := by decide +kernel
theorem dX8_limitPrice_0 : decode cX8_limitPrice 0 = .ok (.aload_n 0, 1) := by decide +kernel
theorem dX8_limitPrice_1 : decode cX8_limitPrice 1 = .ok (.iload_n 1, 1) := by decide +kernel
theorem dX8_limitPrice_2 : decode cX8_limitPrice 2 = .ok (.invokevirtual 170, 3) := by decide +kernel
theorem dX8_limitPrice_5 : decode cX8_limitPrice 5 = .ok (.aload_n 0, 1) := by decide +kernel
theorem dX8_limitPrice_6 : decode cX8_limitPrice 6 = .ok (.getfield 10, 3) := by decide +kernel
theorem dX8_limitPrice_9 : decode cX8_limitPrice 9 = .ok (.getfield 108, 3) := by decide +kernel
theorem dX8_limitPrice_12 : decode cX8_limitPrice 12 = .ok (.getfield 181, 3) := by decide +kernel
theorem dX8_limitPrice_15 : decode cX8_limitPrice 15 = .ok (.iload_n 1, 1) := by decide +kernel
theorem dX8_limitPrice_16 : decode cX8_limitPrice 16 = .ok (.iaload, 1) := by decide +kernel
theorem dX8_limitPrice_17 : decode cX8_limitPrice 17 = .ok (.ireturn, 1) := by decide +kernel
theorem dX8_purse_0 : decode cX8_purse 0 = .ok (.aload_n 0, 1) := by decide +kernel
theorem dX8_purse_1 : decode cX8_purse 1 = .ok (.iload_n 1, 1) := by decide +kernel
theorem dX8_purse_2 : decode cX8_purse 2 = .ok (.invokevirtual 170, 3) := by decide +kernel
theorem dX8_purse_5 : decode cX8_purse 5 = .ok (.aload_n 0, 1) := by decide +kernel
theorem dX8_purse_6 : decode cX8_purse 6 = .ok (.getfield 10, 3) := by decide +kernel
theorem dX8_purse_9 : decode cX8_purse 9 = .ok (.getfield 108, 3) := by decide +kernel
theorem dX8_purse_12 : decode cX8_purse 12 = .ok (.getfield 184, 3) := by decide +kernel
theorem dX8_purse_15 : decode cX8_purse 15 = .ok (.iload_n 1, 1) := by decide +kernel
theorem dX8_purse_16 : decode cX8_purse 16 = .ok (.iaload, 1) := by decide +kernel
theorem dX8_purse_17 : decode cX8_purse 17 = .ok (.ireturn, 1) := by decide +kernel
theorem dX8_patience_0 : decode cX8_patience 0 = .ok (.aload_n 0, 1) := by decide +kernel
theorem dX8_patience_1 : decode cX8_patience 1 = .ok (.iload_n 1, 1) := by decide +kernel
theorem dX8_patience_2 : decode cX8_patience 2 = .ok (.invokevirtual 170, 3) := by decide +kernel
theorem dX8_patience_5 : decode cX8_patience 5 = .ok (.aload_n 0, 1) := by decide +kernel
theorem dX8_patience_6 : decode cX8_patience 6 = .ok (.getfield 10, 3) := by decide +kernel
theorem dX8_patience_9 : decode cX8_patience 9 = .ok (.getfield 108, 3) := by decide +kernel
theorem dX8_patience_12 : decode cX8_patience 12 = .ok (.getfield 187, 3) := by decide +kernel
theorem dX8_patience_15 : decode cX8_patience 15 = .ok (.iload_n 1, 1) := by decide +kernel
theorem dX8_patience_16 : decode cX8_patience 16 = .ok (.iaload, 1) := by decide +kernel
theorem dX8_patience_17 : decode cX8_patience 17 = .ok (.ireturn, 1) := by decide +kernel
theorem dX8_customerWithTicket_0 : decode cX8_customerWithTicket 0 = .ok (.aload_n 0, 1) := by decide +kernel
theorem dX8_customerWithTicket_1 : decode cX8_customerWithTicket 1 = .ok (.getfield 10, 3) := by decide +kernel
theorem dX8_customerWithTicket_4 : decode cX8_customerWithTicket 4 = .ok (.getfield 108, 3) := by decide +kernel
theorem dX8_customerWithTicket_7 : decode cX8_customerWithTicket 7 = .ok (.getfield 174, 3) := by decide +kernel
theorem dX8_customerWithTicket_10 : decode cX8_customerWithTicket 10 = .ok (.aload_n 0, 1) := by decide +kernel
theorem dX8_customerWithTicket_11 : decode cX8_customerWithTicket 11 = .ok (.getfield 10, 3) := by decide +kernel
theorem dX8_customerWithTicket_14 : decode cX8_customerWithTicket 14 = .ok (.getfield 108, 3) := by decide +kernel
theorem dX8_customerWithTicket_17 : decode cX8_customerWithTicket 17 = .ok (.getfield 112, 3) := by decide +kernel
theorem dX8_customerWithTicket_20 : decode cX8_customerWithTicket 20 = .ok (.iload_n 1, 1) := by decide +kernel
theorem dX8_customerWithTicket_21 : decode cX8_customerWithTicket 21 = .ok (.invokestatic 190, 3) := by decide +kernel
theorem dX8_customerWithTicket_24 : decode cX8_customerWithTicket 24 = .ok (.ireturn, 1) := by decide +kernel
theorem dX8_loafKind_0 : decode cX8_loafKind 0 = .ok (.aload_n 0, 1) := by decide +kernel
theorem dX8_loafKind_1 : decode cX8_loafKind 1 = .ok (.iload_n 1, 1) := by decide +kernel
theorem dX8_loafKind_2 : decode cX8_loafKind 2 = .ok (.invokevirtual 194, 3) := by decide +kernel
theorem dX8_loafKind_5 : decode cX8_loafKind 5 = .ok (.aload_n 0, 1) := by decide +kernel
theorem dX8_loafKind_6 : decode cX8_loafKind 6 = .ok (.getfield 10, 3) := by decide +kernel
theorem dX8_loafKind_9 : decode cX8_loafKind 9 = .ok (.getfield 127, 3) := by decide +kernel
theorem dX8_loafKind_12 : decode cX8_loafKind 12 = .ok (.getfield 197, 3) := by decide +kernel
theorem dX8_loafKind_15 : decode cX8_loafKind 15 = .ok (.iload_n 1, 1) := by decide +kernel
theorem dX8_loafKind_16 : decode cX8_loafKind 16 = .ok (.iaload, 1) := by decide +kernel
theorem dX8_loafKind_17 : decode cX8_loafKind 17 = .ok (.ireturn, 1) := by decide +kernel
theorem dX8_loafBaker_0 : decode cX8_loafBaker 0 = .ok (.aload_n 0, 1) := by decide +kernel
theorem dX8_loafBaker_1 : decode cX8_loafBaker 1 = .ok (.iload_n 1, 1) := by decide +kernel
theorem dX8_loafBaker_2 : decode cX8_loafBaker 2 = .ok (.invokevirtual 194, 3) := by decide +kernel
theorem dX8_loafBaker_5 : decode cX8_loafBaker 5 = .ok (.aload_n 0, 1) := by decide +kernel
theorem dX8_loafBaker_6 : decode cX8_loafBaker 6 = .ok (.getfield 10, 3) := by decide +kernel
theorem dX8_loafBaker_9 : decode cX8_loafBaker 9 = .ok (.getfield 127, 3) := by decide +kernel
theorem dX8_loafBaker_12 : decode cX8_loafBaker 12 = .ok (.getfield 198, 3) := by decide +kernel
theorem dX8_loafBaker_15 : decode cX8_loafBaker 15 = .ok (.iload_n 1, 1) := by decide +kernel
theorem dX8_loafBaker_16 : decode cX8_loafBaker 16 = .ok (.iaload, 1) := by decide +kernel
theorem dX8_loafBaker_17 : decode cX8_loafBaker 17 = .ok (.ireturn, 1) := by decide +kernel
theorem dX8_loafAge_0 : decode cX8_loafAge 0 = .ok (.aload_n 0, 1) := by decide +kernel
theorem dX8_loafAge_1 : decode cX8_loafAge 1 = .ok (.iload_n 1, 1) := by decide +kernel
theorem dX8_loafAge_2 : decode cX8_loafAge 2 = .ok (.invokevirtual 194, 3) := by decide +kernel
theorem dX8_loafAge_5 : decode cX8_loafAge 5 = .ok (.aload_n 0, 1) := by decide +kernel
theorem dX8_loafAge_6 : decode cX8_loafAge 6 = .ok (.getfield 10, 3) := by decide +kernel
theorem dX8_loafAge_9 : decode cX8_loafAge 9 = .ok (.iload_n 1, 1) := by decide +kernel
theorem dX8_loafAge_10 : decode cX8_loafAge 10 = .ok (.invokevirtual 201, 3) := by decide +kernel
theorem dX8_loafAge_13 : decode cX8_loafAge 13 = .ok (.ireturn, 1) := by decide +kernel
theorem dX8_reservePrice_0 : decode cX8_reservePrice 0 = .ok (.aload_n 0, 1) := by decide +kernel
theorem dX8_reservePrice_1 : decode cX8_reservePrice 1 = .ok (.iload_n 1, 1) := by decide +kernel
theorem dX8_reservePrice_2 : decode cX8_reservePrice 2 = .ok (.invokevirtual 194, 3) := by decide +kernel
theorem dX8_reservePrice_5 : decode cX8_reservePrice 5 = .ok (.aload_n 0, 1) := by decide +kernel
theorem dX8_reservePrice_6 : decode cX8_reservePrice 6 = .ok (.getfield 10, 3) := by decide +kernel
theorem dX8_reservePrice_9 : decode cX8_reservePrice 9 = .ok (.iload_n 1, 1) := by decide +kernel
theorem dX8_reservePrice_10 : decode cX8_reservePrice 10 = .ok (.invokevirtual 204, 3) := by decide +kernel
theorem dX8_reservePrice_13 : decode cX8_reservePrice 13 = .ok (.ireturn, 1) := by decide +kernel
theorem dX8_basePrice_0 : decode cX8_basePrice 0 = .ok (.iload_n 1, 1) := by decide +kernel
theorem dX8_basePrice_1 : decode cX8_basePrice 1 = .ok (.invokestatic 163, 3) := by decide +kernel
theorem dX8_basePrice_4 : decode cX8_basePrice 4 = .ok (.aload_n 0, 1) := by decide +kernel
theorem dX8_basePrice_5 : decode cX8_basePrice 5 = .ok (.getfield 10, 3) := by decide +kernel
theorem dX8_basePrice_8 : decode cX8_basePrice 8 = .ok (.iload_n 1, 1) := by decide +kernel
theorem dX8_basePrice_9 : decode cX8_basePrice 9 = .ok (.invokevirtual 207, 3) := by decide +kernel
theorem dX8_basePrice_12 : decode cX8_basePrice 12 = .ok (.ireturn, 1) := by decide +kernel
theorem dX8_eventCount_0 : decode cX8_eventCount 0 = .ok (.aload_n 0, 1) := by decide +kernel
theorem dX8_eventCount_1 : decode cX8_eventCount 1 = .ok (.getfield 10, 3) := by decide +kernel
theorem dX8_eventCount_4 : decode cX8_eventCount 4 = .ok (.getfield 242, 3) := by decide +kernel
theorem dX8_eventCount_7 : decode cX8_eventCount 7 = .ok (.getfield 246, 3) := by decide +kernel
theorem dX8_eventCount_10 : decode cX8_eventCount 10 = .ok (.ireturn, 1) := by decide +kernel
theorem dX8_eventType_0 : decode cX8_eventType 0 = .ok (.aload_n 0, 1) := by decide +kernel
theorem dX8_eventType_1 : decode cX8_eventType 1 = .ok (.iload_n 1, 1) := by decide +kernel
theorem dX8_eventType_2 : decode cX8_eventType 2 = .ok (.invokevirtual 249, 3) := by decide +kernel
theorem dX8_eventType_5 : decode cX8_eventType 5 = .ok (.aload_n 0, 1) := by decide +kernel
theorem dX8_eventType_6 : decode cX8_eventType 6 = .ok (.getfield 10, 3) := by decide +kernel
theorem dX8_eventType_9 : decode cX8_eventType 9 = .ok (.getfield 242, 3) := by decide +kernel
theorem dX8_eventType_12 : decode cX8_eventType 12 = .ok (.getfield 252, 3) := by decide +kernel
theorem dX8_eventType_15 : decode cX8_eventType 15 = .ok (.iload_n 1, 1) := by decide +kernel
theorem dX8_eventType_16 : decode cX8_eventType 16 = .ok (.iaload, 1) := by decide +kernel
theorem dX8_eventType_17 : decode cX8_eventType 17 = .ok (.ireturn, 1) := by decide +kernel
theorem dX8_eventFirst_0 : decode cX8_eventFirst 0 = .ok (.aload_n 0, 1) := by decide +kernel
theorem dX8_eventFirst_1 : decode cX8_eventFirst 1 = .ok (.iload_n 1, 1) := by decide +kernel
theorem dX8_eventFirst_2 : decode cX8_eventFirst 2 = .ok (.invokevirtual 249, 3) := by decide +kernel
theorem dX8_eventFirst_5 : decode cX8_eventFirst 5 = .ok (.aload_n 0, 1) := by decide +kernel
theorem dX8_eventFirst_6 : decode cX8_eventFirst 6 = .ok (.getfield 10, 3) := by decide +kernel
theorem dX8_eventFirst_9 : decode cX8_eventFirst 9 = .ok (.getfield 242, 3) := by decide +kernel
theorem dX8_eventFirst_12 : decode cX8_eventFirst 12 = .ok (.getfield 255, 3) := by decide +kernel
theorem dX8_eventFirst_15 : decode cX8_eventFirst 15 = .ok (.iload_n 1, 1) := by decide +kernel
theorem dX8_eventFirst_16 : decode cX8_eventFirst 16 = .ok (.iaload, 1) := by decide +kernel
theorem dX8_eventFirst_17 : decode cX8_eventFirst 17 = .ok (.ireturn, 1) := by decide +kernel
theorem dX8_eventSecond_0 : decode cX8_eventSecond 0 = .ok (.aload_n 0, 1) := by decide +kernel
theorem dX8_eventSecond_1 : decode cX8_eventSecond 1 = .ok (.iload_n 1, 1) := by decide +kernel
theorem dX8_eventSecond_2 : decode cX8_eventSecond 2 = .ok (.invokevirtual 249, 3) := by decide +kernel
theorem dX8_eventSecond_5 : decode cX8_eventSecond 5 = .ok (.aload_n 0, 1) := by decide +kernel
theorem dX8_eventSecond_6 : decode cX8_eventSecond 6 = .ok (.getfield 10, 3) := by decide +kernel
theorem dX8_eventSecond_9 : decode cX8_eventSecond 9 = .ok (.getfield 242, 3) := by decide +kernel
theorem dX8_eventSecond_12 : decode cX8_eventSecond 12 = .ok (.getfield 258, 3) := by decide +kernel
theorem dX8_eventSecond_15 : decode cX8_eventSecond 15 = .ok (.iload_n 1, 1) := by decide +kernel
theorem dX8_eventSecond_16 : decode cX8_eventSecond 16 = .ok (.iaload, 1) := by decide +kernel
theorem dX8_eventSecond_17 : decode cX8_eventSecond 17 = .ok (.ireturn, 1) := by decide +kernel
theorem dX8_moneyDifference_0 : decode cX8_moneyDifference 0 = .ok (.aload_n 0, 1) := by decide +kernel
theorem dX8_moneyDifference_1 : decode cX8_moneyDifference 1 = .ok (.getfield 10, 3) := by decide +kernel
theorem dX8_moneyDifference_4 : decode cX8_moneyDifference 4 = .ok (.getfield 261, 3) := by decide +kernel
theorem dX8_moneyDifference_7 : decode cX8_moneyDifference 7 = .ok (.aload_n 0, 1) := by decide +kernel
theorem dX8_moneyDifference_8 : decode cX8_moneyDifference 8 = .ok (.getfield 10, 3) := by decide +kernel
theorem dX8_moneyDifference_11 : decode cX8_moneyDifference 11 = .ok (.getfield 108, 3) := by decide +kernel
theorem dX8_moneyDifference_14 : decode cX8_moneyDifference 14 = .ok (.getfield 184, 3) := by decide +kernel
theorem dX8_moneyDifference_17 : decode cX8_moneyDifference 17 = .ok (.aload_n 0, 1) := by decide +kernel
theorem dX8_moneyDifference_18 : decode cX8_moneyDifference 18 = .ok (.getfield 10, 3) := by decide +kernel
theorem dX8_moneyDifference_21 : decode cX8_moneyDifference 21 = .ok (.getfield 108, 3) := by decide +kernel
theorem dX8_moneyDifference_24 : decode cX8_moneyDifference 24 = .ok (.getfield 112, 3) := by decide +kernel
theorem dX8_moneyDifference_27 : decode cX8_moneyDifference 27 = .ok (.invokestatic 264, 3) := by decide +kernel
theorem dX8_moneyDifference_30 : decode cX8_moneyDifference 30 = .ok (.isub, 1) := by decide +kernel
theorem dX8_moneyDifference_31 : decode cX8_moneyDifference 31 = .ok (.aload_n 0, 1) := by decide +kernel
theorem dX8_moneyDifference_32 : decode cX8_moneyDifference 32 = .ok (.getfield 10, 3) := by decide +kernel
theorem dX8_moneyDifference_35 : decode cX8_moneyDifference 35 = .ok (.getfield 268, 3) := by decide +kernel
theorem dX8_moneyDifference_38 : decode cX8_moneyDifference 38 = .ok (.isub, 1) := by decide +kernel
theorem dX8_moneyDifference_39 : decode cX8_moneyDifference 39 = .ok (.aload_n 0, 1) := by decide +kernel
theorem dX8_moneyDifference_40 : decode cX8_moneyDifference 40 = .ok (.getfield 10, 3) := by decide +kernel
theorem dX8_moneyDifference_43 : decode cX8_moneyDifference 43 = .ok (.getfield 120, 3) := by decide +kernel
theorem dX8_moneyDifference_46 : decode cX8_moneyDifference 46 = .ok (.getfield 160, 3) := by decide +kernel
theorem dX8_moneyDifference_49 : decode cX8_moneyDifference 49 = .ok (.aload_n 0, 1) := by decide +kernel
theorem dX8_moneyDifference_50 : decode cX8_moneyDifference 50 = .ok (.getfield 10, 3) := by decide +kernel
theorem dX8_moneyDifference_53 : decode cX8_moneyDifference 53 = .ok (.getfield 120, 3) := by decide +kernel
theorem dX8_moneyDifference_56 : decode cX8_moneyDifference 56 = .ok (.getfield 124, 3) := by decide +kernel
theorem dX8_moneyDifference_59 : decode cX8_moneyDifference 59 = .ok (.invokestatic 264, 3) := by decide +kernel
theorem dX8_moneyDifference_62 : decode cX8_moneyDifference 62 = .ok (.isub, 1) := by decide +kernel
theorem dX8_moneyDifference_63 : decode cX8_moneyDifference 63 = .ok (.ireturn, 1) := by decide +kernel
theorem dX8_loafDifference_0 : decode cX8_loafDifference 0 = .ok (.aload_n 0, 1) := by decide +kernel
theorem dX8_loafDifference_1 : decode cX8_loafDifference 1 = .ok (.getfield 10, 3) := by decide +kernel
theorem dX8_loafDifference_4 : decode cX8_loafDifference 4 = .ok (.getfield 271, 3) := by decide +kernel
theorem dX8_loafDifference_7 : decode cX8_loafDifference 7 = .ok (.aload_n 0, 1) := by decide +kernel
theorem dX8_loafDifference_8 : decode cX8_loafDifference 8 = .ok (.getfield 10, 3) := by decide +kernel
theorem dX8_loafDifference_11 : decode cX8_loafDifference 11 = .ok (.getfield 274, 3) := by decide +kernel
theorem dX8_loafDifference_14 : decode cX8_loafDifference 14 = .ok (.isub, 1) := by decide +kernel
theorem dX8_loafDifference_15 : decode cX8_loafDifference 15 = .ok (.aload_n 0, 1) := by decide +kernel
theorem dX8_loafDifference_16 : decode cX8_loafDifference 16 = .ok (.getfield 10, 3) := by decide +kernel
theorem dX8_loafDifference_19 : decode cX8_loafDifference 19 = .ok (.getfield 277, 3) := by decide +kernel
theorem dX8_loafDifference_22 : decode cX8_loafDifference 22 = .ok (.isub, 1) := by decide +kernel
theorem dX8_loafDifference_23 : decode cX8_loafDifference 23 = .ok (.aload_n 0, 1) := by decide +kernel
theorem dX8_loafDifference_24 : decode cX8_loafDifference 24 = .ok (.getfield 10, 3) := by decide +kernel
theorem dX8_loafDifference_27 : decode cX8_loafDifference 27 = .ok (.getfield 127, 3) := by decide +kernel
theorem dX8_loafDifference_30 : decode cX8_loafDifference 30 = .ok (.getfield 131, 3) := by decide +kernel
theorem dX8_loafDifference_33 : decode cX8_loafDifference 33 = .ok (.isub, 1) := by decide +kernel
theorem dX8_loafDifference_34 : decode cX8_loafDifference 34 = .ok (.ireturn, 1) := by decide +kernel
theorem dX8_bake_0 : decode cX8_bake 0 = .ok (.aload_n 0, 1) := by decide +kernel
theorem dX8_bake_1 : decode cX8_bake 1 = .ok (.iload_n 1, 1) := by decide +kernel
theorem dX8_bake_2 : decode cX8_bake 2 = .ok (.invokevirtual 140, 3) := by decide +kernel
theorem dX8_bake_5 : decode cX8_bake 5 = .ok (.iload_n 2, 1) := by decide +kernel
theorem dX8_bake_6 : decode cX8_bake 6 = .ok (.invokestatic 163, 3) := by decide +kernel
theorem dX8_bake_9 : decode cX8_bake 9 = .ok (.aload_n 0, 1) := by decide +kernel
theorem dX8_bake_10 : decode cX8_bake 10 = .ok (.getfield 10, 3) := by decide +kernel
theorem dX8_bake_13 : decode cX8_bake 13 = .ok (.iload_n 1, 1) := by decide +kernel
theorem dX8_bake_14 : decode cX8_bake 14 = .ok (.invokevirtual 166, 3) := by decide +kernel
theorem dX8_bake_17 : decode cX8_bake 17 = .ok (.ifCond .eq 14, 3) := by decide +kernel
theorem dX8_bake_20 : decode cX8_bake 20 = .ok (.new 72, 3) := by decide +kernel
theorem dX8_bake_23 : decode cX8_bake 23 = .ok (.dup, 1) := by decide +kernel
theorem dX8_bake_24 : decode cX8_bake 24 = .ok (.ldc_w 286, 3) := by decide +kernel
theorem dX8_bake_27 : decode cX8_bake 27 = .ok (.invokespecial 76, 3) := by decide +kernel
theorem dX8_bake_30 : decode cX8_bake 30 = .ok (.athrow, 1) := by decide +kernel
theorem dX8_bake_31 : decode cX8_bake 31 = .ok (.aload_n 0, 1) := by decide +kernel
theorem dX8_bake_32 : decode cX8_bake 32 = .ok (.invokevirtual 101, 3) := by decide +kernel
theorem dX8_bake_35 : decode cX8_bake 35 = .ok (.aload_n 0, 1) := by decide +kernel
theorem dX8_bake_36 : decode cX8_bake 36 = .ok (.getfield 10, 3) := by decide +kernel
theorem dX8_bake_39 : decode cX8_bake 39 = .ok (.getfield 120, 3) := by decide +kernel
theorem dX8_bake_42 : decode cX8_bake 42 = .ok (.iload_n 1, 1) := by decide +kernel
theorem dX8_bake_43 : decode cX8_bake 43 = .ok (.iload_n 2, 1) := by decide +kernel
theorem dX8_bake_44 : decode cX8_bake 44 = .ok (.invokevirtual 288, 3) := by decide +kernel
theorem dX8_bake_47 : decode cX8_bake 47 = .ok (.aload_n 0, 1) := by decide +kernel
theorem dX8_bake_48 : decode cX8_bake 48 = .ok (.getfield 10, 3) := by decide +kernel
theorem dX8_bake_51 : decode cX8_bake 51 = .ok (.getfield 120, 3) := by decide +kernel
theorem dX8_bake_54 : decode cX8_bake 54 = .ok (.getfield 151, 3) := by decide +kernel
theorem dX8_bake_57 : decode cX8_bake 57 = .ok (.iload_n 1, 1) := by decide +kernel
theorem dX8_bake_58 : decode cX8_bake 58 = .ok (.iaload, 1) := by decide +kernel
theorem dX8_bake_59 : decode cX8_bake 59 = .ok (.ireturn, 1) := by decide +kernel
theorem dX8_auction_0 : decode cX8_auction 0 = .ok (.iload_n 1, 1) := by decide +kernel
theorem dX8_auction_1 : decode cX8_auction 1 = .ok (.invokestatic 163, 3) := by decide +kernel
theorem dX8_auction_4 : decode cX8_auction 4 = .ok (.aload_n 0, 1) := by decide +kernel
theorem dX8_auction_5 : decode cX8_auction 5 = .ok (.invokevirtual 101, 3) := by decide +kernel
theorem dX8_auction_8 : decode cX8_auction 8 = .ok (.aload_n 0, 1) := by decide +kernel
theorem dX8_auction_9 : decode cX8_auction 9 = .ok (.getfield 22, 3) := by decide +kernel
theorem dX8_auction_12 : decode cX8_auction 12 = .ok (.aload_n 0, 1) := by decide +kernel
theorem dX8_auction_13 : decode cX8_auction 13 = .ok (.getfield 10, 3) := by decide +kernel
theorem dX8_auction_16 : decode cX8_auction 16 = .ok (.iload_n 1, 1) := by decide +kernel
theorem dX8_auction_17 : decode cX8_auction 17 = .ok (.invokevirtual 292, 3) := by decide +kernel
theorem dX8_auction_20 : decode cX8_auction 20 = .ok (.aload_n 0, 1) := by decide +kernel
theorem dX8_auction_21 : decode cX8_auction 21 = .ok (.getfield 22, 3) := by decide +kernel
theorem dX8_auction_24 : decode cX8_auction 24 = .ok (.getfield 221, 3) := by decide +kernel
theorem dX8_auction_27 : decode cX8_auction 27 = .ok (.ireturn, 1) := by decide +kernel
theorem dX8_joinQueue_0 : decode cX8_joinQueue 0 = .ok (.iload_n 1, 1) := by decide +kernel
theorem dX8_joinQueue_1 : decode cX8_joinQueue 1 = .ok (.invokestatic 163, 3) := by decide +kernel
theorem dX8_joinQueue_4 : decode cX8_joinQueue 4 = .ok (.iload_n 2, 1) := by decide +kernel
theorem dX8_joinQueue_5 : decode cX8_joinQueue 5 = .ok (.iconst 1, 1) := by decide +kernel
theorem dX8_joinQueue_6 : decode cX8_joinQueue 6 = .ok (.bipush 9, 2) := by decide +kernel
theorem dX8_joinQueue_8 : decode cX8_joinQueue 8 = .ok (.invokestatic 83, 3) := by decide +kernel
theorem dX8_joinQueue_11 : decode cX8_joinQueue 11 = .ok (.iload_n 3, 1) := by decide +kernel
theorem dX8_joinQueue_12 : decode cX8_joinQueue 12 = .ok (.iconst 1, 1) := by decide +kernel
theorem dX8_joinQueue_13 : decode cX8_joinQueue 13 = .ok (.bipush 99, 2) := by decide +kernel
theorem dX8_joinQueue_15 : decode cX8_joinQueue 15 = .ok (.invokestatic 83, 3) := by decide +kernel
theorem dX8_joinQueue_18 : decode cX8_joinQueue 18 = .ok (.iload 4, 2) := by decide +kernel
theorem dX8_joinQueue_20 : decode cX8_joinQueue 20 = .ok (.iconst 0, 1) := by decide +kernel
theorem dX8_joinQueue_21 : decode cX8_joinQueue 21 = .ok (.sipush 999, 3) := by decide +kernel
theorem dX8_joinQueue_24 : decode cX8_joinQueue 24 = .ok (.invokestatic 83, 3) := by decide +kernel
theorem dX8_joinQueue_27 : decode cX8_joinQueue 27 = .ok (.iload 5, 2) := by decide +kernel
theorem dX8_joinQueue_29 : decode cX8_joinQueue 29 = .ok (.iconst 1, 1) := by decide +kernel
theorem dX8_joinQueue_30 : decode cX8_joinQueue 30 = .ok (.bipush 99, 2) := by decide +kernel
theorem dX8_joinQueue_32 : decode cX8_joinQueue 32 = .ok (.invokestatic 83, 3) := by decide +kernel
theorem dX8_joinQueue_35 : decode cX8_joinQueue 35 = .ok (.aload_n 0, 1) := by decide +kernel
theorem dX8_joinQueue_36 : decode cX8_joinQueue 36 = .ok (.getfield 26, 3) := by decide +kernel
theorem dX8_joinQueue_39 : decode cX8_joinQueue 39 = .ok (.iconst 0, 1) := by decide +kernel
theorem dX8_joinQueue_40 : decode cX8_joinQueue 40 = .ok (.aload_n 0, 1) := by decide +kernel
theorem dX8_joinQueue_41 : decode cX8_joinQueue 41 = .ok (.getfield 69, 3) := by decide +kernel
theorem dX8_joinQueue_44 : decode cX8_joinQueue 44 = .ok (.invokestatic 295, 3) := by decide +kernel
theorem dX8_joinQueue_47 : decode cX8_joinQueue 47 = .ok (.istore 6, 2) := by decide +kernel
theorem dX8_joinQueue_49 : decode cX8_joinQueue 49 = .ok (.iload 6, 2) := by decide +kernel
theorem dX8_joinQueue_51 : decode cX8_joinQueue 51 = .ok (.iconst (-1), 1) := by decide +kernel
theorem dX8_joinQueue_52 : decode cX8_joinQueue 52 = .ok (.if_icmp .ne 14, 3) := by decide +kernel
theorem dX8_joinQueue_55 : decode cX8_joinQueue 55 = .ok (.new 96, 3) := by decide +kernel
theorem dX8_joinQueue_58 : decode cX8_joinQueue 58 = .ok (.dup, 1) := by decide +kernel
theorem dX8_joinQueue_59 : decode cX8_joinQueue 59 = .ok (.ldc_w 299, 3) := by decide +kernel
theorem dX8_joinQueue_62 : decode cX8_joinQueue 62 = .ok (.invokespecial 100, 3) := by decide +kernel
theorem dX8_joinQueue_65 : decode cX8_joinQueue 65 = .ok (.athrow, 1) := by decide +kernel
theorem dX8_joinQueue_66 : decode cX8_joinQueue 66 = .ok (.aload_n 0, 1) := by decide +kernel
theorem dX8_joinQueue_67 : decode cX8_joinQueue 67 = .ok (.getfield 10, 3) := by decide +kernel
theorem dX8_joinQueue_70 : decode cX8_joinQueue 70 = .ok (.getfield 108, 3) := by decide +kernel
theorem dX8_joinQueue_73 : decode cX8_joinQueue 73 = .ok (.getfield 112, 3) := by decide +kernel
theorem dX8_joinQueue_76 : decode cX8_joinQueue 76 = .ok (.bipush 10, 2) := by decide +kernel
theorem dX8_joinQueue_78 : decode cX8_joinQueue 78 = .ok (.if_icmp .ge 15, 3) := by decide +kernel
theorem dX8_joinQueue_81 : decode cX8_joinQueue 81 = .ok (.aload_n 0, 1) := by decide +kernel
theorem dX8_joinQueue_82 : decode cX8_joinQueue 82 = .ok (.getfield 10, 3) := by decide +kernel
theorem dX8_joinQueue_85 : decode cX8_joinQueue 85 = .ok (.iload 6, 2) := by decide +kernel
theorem dX8_joinQueue_87 : decode cX8_joinQueue 87 = .ok (.invokevirtual 301, 3) := by decide +kernel
theorem dX8_joinQueue_90 : decode cX8_joinQueue 90 = .ok (.ifCond .eq 14, 3) := by decide +kernel
theorem dX8_joinQueue_93 : decode cX8_joinQueue 93 = .ok (.new 72, 3) := by decide +kernel
theorem dX8_joinQueue_96 : decode cX8_joinQueue 96 = .ok (.dup, 1) := by decide +kernel
theorem dX8_joinQueue_97 : decode cX8_joinQueue 97 = .ok (.ldc_w 305, 3) := by decide +kernel
theorem dX8_joinQueue_100 : decode cX8_joinQueue 100 = .ok (.invokespecial 76, 3) := by decide +kernel
theorem dX8_joinQueue_103 : decode cX8_joinQueue 103 = .ok (.athrow, 1) := by decide +kernel
theorem dX8_joinQueue_104 : decode cX8_joinQueue 104 = .ok (.aload_n 0, 1) := by decide +kernel
theorem dX8_joinQueue_105 : decode cX8_joinQueue 105 = .ok (.invokevirtual 101, 3) := by decide +kernel
theorem dX8_joinQueue_108 : decode cX8_joinQueue 108 = .ok (.aload_n 0, 1) := by decide +kernel
theorem dX8_joinQueue_109 : decode cX8_joinQueue 109 = .ok (.iconst 0, 1) := by decide +kernel
theorem dX8_joinQueue_110 : decode cX8_joinQueue 110 = .ok (.putfield 69, 3) := by decide +kernel
theorem dX8_joinQueue_113 : decode cX8_joinQueue 113 = .ok (.aload_n 0, 1) := by decide +kernel
theorem dX8_joinQueue_114 : decode cX8_joinQueue 114 = .ok (.getfield 10, 3) := by decide +kernel
theorem dX8_joinQueue_117 : decode cX8_joinQueue 117 = .ok (.iload 6, 2) := by decide +kernel
theorem dX8_joinQueue_119 : decode cX8_joinQueue 119 = .ok (.iload_n 1, 1) := by decide +kernel
theorem dX8_joinQueue_120 : decode cX8_joinQueue 120 = .ok (.iload_n 2, 1) := by decide +kernel
theorem dX8_joinQueue_121 : decode cX8_joinQueue 121 = .ok (.iload_n 3, 1) := by decide +kernel
theorem dX8_joinQueue_122 : decode cX8_joinQueue 122 = .ok (.iload 4, 2) := by decide +kernel
theorem dX8_joinQueue_124 : decode cX8_joinQueue 124 = .ok (.iload 5, 2) := by decide +kernel
theorem dX8_joinQueue_126 : decode cX8_joinQueue 126 = .ok (.invokevirtual 307, 3) := by decide +kernel
theorem dX8_joinQueue_129 : decode cX8_joinQueue 129 = .ok (.ireturn, 1) := by decide +kernel
theorem dX8_sendAway_0 : decode cX8_sendAway 0 = .ok (.aload_n 0, 1) := by decide +kernel
theorem dX8_sendAway_1 : decode cX8_sendAway 1 = .ok (.iload_n 1, 1) := by decide +kernel
theorem dX8_sendAway_2 : decode cX8_sendAway 2 = .ok (.invokevirtual 170, 3) := by decide +kernel
theorem dX8_sendAway_5 : decode cX8_sendAway 5 = .ok (.aload_n 0, 1) := by decide +kernel
theorem dX8_sendAway_6 : decode cX8_sendAway 6 = .ok (.invokevirtual 101, 3) := by decide +kernel
theorem dX8_sendAway_9 : decode cX8_sendAway 9 = .ok (.aload_n 0, 1) := by decide +kernel
theorem dX8_sendAway_10 : decode cX8_sendAway 10 = .ok (.getfield 10, 3) := by decide +kernel
theorem dX8_sendAway_13 : decode cX8_sendAway 13 = .ok (.getfield 108, 3) := by decide +kernel
theorem dX8_sendAway_16 : decode cX8_sendAway 16 = .ok (.getfield 184, 3) := by decide +kernel
theorem dX8_sendAway_19 : decode cX8_sendAway 19 = .ok (.iload_n 1, 1) := by decide +kernel
theorem dX8_sendAway_20 : decode cX8_sendAway 20 = .ok (.iaload, 1) := by decide +kernel
theorem dX8_sendAway_21 : decode cX8_sendAway 21 = .ok (.istore_n 2, 1) := by decide +kernel
theorem dX8_sendAway_22 : decode cX8_sendAway 22 = .ok (.aload_n 0, 1) := by decide +kernel
theorem dX8_sendAway_23 : decode cX8_sendAway 23 = .ok (.getfield 10, 3) := by decide +kernel
theorem dX8_sendAway_26 : decode cX8_sendAway 26 = .ok (.iload_n 1, 1) := by decide +kernel
theorem dX8_sendAway_27 : decode cX8_sendAway 27 = .ok (.iconst 2, 1) := by decide +kernel
theorem dX8_sendAway_28 : decode cX8_sendAway 28 = .ok (.invokevirtual 311, 3) := by decide +kernel
theorem dX8_sendAway_31 : decode cX8_sendAway 31 = .ok (.aload_n 0, 1) := by decide +kernel
theorem dX8_sendAway_32 : decode cX8_sendAway 32 = .ok (.getfield 10, 3) := by decide +kernel
theorem dX8_sendAway_35 : decode cX8_sendAway 35 = .ok (.getfield 108, 3) := by decide +kernel
theorem dX8_sendAway_38 : decode cX8_sendAway 38 = .ok (.invokevirtual 314, 3) := by decide +kernel
theorem dX8_sendAway_41 : decode cX8_sendAway 41 = .ok (.iload_n 2, 1) := by decide +kernel
theorem dX8_sendAway_42 : decode cX8_sendAway 42 = .ok (.ireturn, 1) := by decide +kernel
theorem dX8_setBasePrice_0 : decode cX8_setBasePrice 0 = .ok (.iload_n 1, 1) := by decide +kernel
theorem dX8_setBasePrice_1 : decode cX8_setBasePrice 1 = .ok (.invokestatic 163, 3) := by decide +kernel
theorem dX8_setBasePrice_4 : decode cX8_setBasePrice 4 = .ok (.iload_n 2, 1) := by decide +kernel
theorem dX8_setBasePrice_5 : decode cX8_setBasePrice 5 = .ok (.iconst 1, 1) := by decide +kernel
theorem dX8_setBasePrice_6 : decode cX8_setBasePrice 6 = .ok (.bipush 99, 2) := by decide +kernel
theorem dX8_setBasePrice_8 : decode cX8_setBasePrice 8 = .ok (.invokestatic 83, 3) := by decide +kernel
theorem dX8_setBasePrice_11 : decode cX8_setBasePrice 11 = .ok (.aload_n 0, 1) := by decide +kernel
theorem dX8_setBasePrice_12 : decode cX8_setBasePrice 12 = .ok (.invokevirtual 101, 3) := by decide +kernel
theorem dX8_setBasePrice_15 : decode cX8_setBasePrice 15 = .ok (.aload_n 0, 1) := by decide +kernel
theorem dX8_setBasePrice_16 : decode cX8_setBasePrice 16 = .ok (.getfield 10, 3) := by decide +kernel
theorem dX8_setBasePrice_19 : decode cX8_setBasePrice 19 = .ok (.iload_n 1, 1) := by decide +kernel
theorem dX8_setBasePrice_20 : decode cX8_setBasePrice 20 = .ok (.invokevirtual 207, 3) := by decide +kernel
theorem dX8_setBasePrice_23 : decode cX8_setBasePrice 23 = .ok (.istore_n 3, 1) := by decide +kernel
theorem dX8_setBasePrice_24 : decode cX8_setBasePrice 24 = .ok (.aload_n 0, 1) := by decide +kernel
theorem dX8_setBasePrice_25 : decode cX8_setBasePrice 25 = .ok (.getfield 10, 3) := by decide +kernel
theorem dX8_setBasePrice_28 : decode cX8_setBasePrice 28 = .ok (.getfield 317, 3) := by decide +kernel
theorem dX8_setBasePrice_31 : decode cX8_setBasePrice 31 = .ok (.iload_n 1, 1) := by decide +kernel
theorem dX8_setBasePrice_32 : decode cX8_setBasePrice 32 = .ok (.iload_n 2, 1) := by decide +kernel
theorem dX8_setBasePrice_33 : decode cX8_setBasePrice 33 = .ok (.iastore, 1) := by decide +kernel
theorem dX8_setBasePrice_34 : decode cX8_setBasePrice 34 = .ok (.iload_n 3, 1) := by decide +kernel
theorem dX8_setBasePrice_35 : decode cX8_setBasePrice 35 = .ok (.ireturn, 1) := by decide +kernel
theorem dX8_scatter_0 : decode cX8_scatter 0 = .ok (.iload_n 1, 1) := by decide +kernel
theorem dX8_scatter_1 : decode cX8_scatter 1 = .ok (.iconst 1, 1) := by decide +kernel
theorem dX8_scatter_2 : decode cX8_scatter 2 = .ok (.bipush 99, 2) := by decide +kernel
theorem dX8_scatter_4 : decode cX8_scatter 4 = .ok (.invokestatic 83, 3) := by decide +kernel
theorem dX8_scatter_7 : decode cX8_scatter 7 = .ok (.aload_n 0, 1) := by decide +kernel
theorem dX8_scatter_8 : decode cX8_scatter 8 = .ok (.invokevirtual 101, 3) := by decide +kernel
theorem dX8_scatter_11 : decode cX8_scatter 11 = .ok (.aload_n 0, 1) := by decide +kernel
theorem dX8_scatter_12 : decode cX8_scatter 12 = .ok (.getfield 10, 3) := by decide +kernel
theorem dX8_scatter_15 : decode cX8_scatter 15 = .ok (.dup, 1) := by decide +kernel
theorem dX8_scatter_16 : decode cX8_scatter 16 = .ok (.getfield 134, 3) := by decide +kernel
theorem dX8_scatter_19 : decode cX8_scatter 19 = .ok (.iload_n 1, 1) := by decide +kernel
theorem dX8_scatter_20 : decode cX8_scatter 20 = .ok (.iadd, 1) := by decide +kernel
theorem dX8_scatter_21 : decode cX8_scatter 21 = .ok (.putfield 134, 3) := by decide +kernel
theorem dX8_scatter_24 : decode cX8_scatter 24 = .ok (.aload_n 0, 1) := by decide +kernel
theorem dX8_scatter_25 : decode cX8_scatter 25 = .ok (.getfield 10, 3) := by decide +kernel
theorem dX8_scatter_28 : decode cX8_scatter 28 = .ok (.getfield 134, 3) := by decide +kernel
theorem dX8_scatter_31 : decode cX8_scatter 31 = .ok (.ireturn, 1) := by decide +kernel
theorem dX8_passHours_0 : decode cX8_passHours 0 = .ok (.iload_n 1, 1) := by decide +kernel
theorem dX8_passHours_1 : decode cX8_passHours 1 = .ok (.iconst 1, 1) := by decide +kernel
theorem dX8_passHours_2 : decode cX8_passHours 2 = .ok (.bipush 60, 2) := by decide +kernel
theorem dX8_passHours_4 : decode cX8_passHours 4 = .ok (.invokestatic 83, 3) := by decide +kernel
theorem dX8_passHours_7 : decode cX8_passHours 7 = .ok (.aload_n 0, 1) := by decide +kernel
theorem dX8_passHours_8 : decode cX8_passHours 8 = .ok (.invokevirtual 101, 3) := by decide +kernel
theorem dX8_passHours_11 : decode cX8_passHours 11 = .ok (.aload_n 0, 1) := by decide +kernel
theorem dX8_passHours_12 : decode cX8_passHours 12 = .ok (.getfield 10, 3) := by decide +kernel
theorem dX8_passHours_15 : decode cX8_passHours 15 = .ok (.getfield 277, 3) := by decide +kernel
theorem dX8_passHours_18 : decode cX8_passHours 18 = .ok (.istore_n 2, 1) := by decide +kernel
theorem dX8_passHours_19 : decode cX8_passHours 19 = .ok (.iconst 0, 1) := by decide +kernel
theorem dX8_passHours_20 : decode cX8_passHours 20 = .ok (.istore_n 3, 1) := by decide +kernel
theorem dX8_passHours_21 : decode cX8_passHours 21 = .ok (.iload_n 3, 1) := by decide +kernel
theorem dX8_passHours_22 : decode cX8_passHours 22 = .ok (.iload_n 1, 1) := by decide +kernel
theorem dX8_passHours_23 : decode cX8_passHours 23 = .ok (.if_icmp .ge 16, 3) := by decide +kernel
theorem dX8_passHours_26 : decode cX8_passHours 26 = .ok (.aload_n 0, 1) := by decide +kernel
theorem dX8_passHours_27 : decode cX8_passHours 27 = .ok (.getfield 10, 3) := by decide +kernel
theorem dX8_passHours_30 : decode cX8_passHours 30 = .ok (.invokevirtual 283, 3) := by decide +kernel
theorem dX8_passHours_33 : decode cX8_passHours 33 = .ok (.iinc 3 1, 3) := by decide +kernel
theorem dX8_passHours_36 : decode cX8_passHours 36 = .ok (.goto (-15), 3) := by decide +kernel
theorem dX8_passHours_39 : decode cX8_passHours 39 = .ok (.aload_n 0, 1) := by decide +kernel
theorem dX8_passHours_40 : decode cX8_passHours 40 = .ok (.getfield 10, 3) := by decide +kernel
theorem dX8_passHours_43 : decode cX8_passHours 43 = .ok (.getfield 277, 3) := by decide +kernel
theorem dX8_passHours_46 : decode cX8_passHours 46 = .ok (.iload_n 2, 1) := by decide +kernel
theorem dX8_passHours_47 : decode cX8_passHours 47 = .ok (.isub, 1) := by decide +kernel
theorem dX8_passHours_48 : decode cX8_passHours 48 = .ok (.ireturn, 1) := by decide +kernel
theorem dX8_needRange_0 : decode cX8_needRange 0 = .ok (.iload_n 0, 1) := by decide +kernel
theorem dX8_needRange_1 : decode cX8_needRange 1 = .ok (.iload_n 1, 1) := by decide +kernel
theorem dX8_needRange_2 : decode cX8_needRange 2 = .ok (.if_icmp .lt 8, 3) := by decide +kernel
theorem dX8_needRange_5 : decode cX8_needRange 5 = .ok (.iload_n 0, 1) := by decide +kernel
theorem dX8_needRange_6 : decode cX8_needRange 6 = .ok (.iload_n 2, 1) := by decide +kernel
theorem dX8_needRange_7 : decode cX8_needRange 7 = .ok (.if_icmp .le 14, 3) := by decide +kernel
theorem dX8_needRange_10 : decode cX8_needRange 10 = .ok (.new 96, 3) := by decide +kernel
theorem dX8_needRange_13 : decode cX8_needRange 13 = .ok (.dup, 1) := by decide +kernel
theorem dX8_needRange_14 : decode cX8_needRange 14 = .ok (.ldc_w 347, 3) := by decide +kernel
theorem dX8_needRange_17 : decode cX8_needRange 17 = .ok (.invokespecial 100, 3) := by decide +kernel
theorem dX8_needRange_20 : decode cX8_needRange 20 = .ok (.athrow, 1) := by decide +kernel
theorem dX8_needRange_21 : decode cX8_needRange 21 = .ok (.return_, 1) := by decide +kernel
theorem dX8_needIndex_0 : decode cX8_needIndex 0 = .ok (.iload_n 0, 1) := by decide +kernel
theorem dX8_needIndex_1 : decode cX8_needIndex 1 = .ok (.ifCond .lt 8, 3) := by decide +kernel
theorem dX8_needIndex_4 : decode cX8_needIndex 4 = .ok (.iload_n 0, 1) := by decide +kernel
theorem dX8_needIndex_5 : decode cX8_needIndex 5 = .ok (.iload_n 1, 1) := by decide +kernel
theorem dX8_needIndex_6 : decode cX8_needIndex 6 = .ok (.if_icmp .lt 14, 3) := by decide +kernel
theorem dX8_needIndex_9 : decode cX8_needIndex 9 = .ok (.new 349, 3) := by decide +kernel
theorem dX8_needIndex_12 : decode cX8_needIndex 12 = .ok (.dup, 1) := by decide +kernel
theorem dX8_needIndex_13 : decode cX8_needIndex 13 = .ok (.ldc_w 351, 3) := by decide +kernel
theorem dX8_needIndex_16 : decode cX8_needIndex 16 = .ok (.invokespecial 353, 3) := by decide +kernel
theorem dX8_needIndex_19 : decode cX8_needIndex 19 = .ok (.athrow, 1) := by decide +kernel
theorem dX8_needIndex_20 : decode cX8_needIndex 20 = .ok (.return_, 1) := by decide +kernel
theorem dX8_needKind_0 : decode cX8_needKind 0 = .ok (.iload_n 0, 1) := by decide +kernel
theorem dX8_needKind_1 : decode cX8_needKind 1 = .ok (.iconst 3, 1) := by decide +kernel
theorem dX8_needKind_2 : decode cX8_needKind 2 = .ok (.invokestatic 354, 3) := by decide +kernel
theorem dX8_needKind_5 : decode cX8_needKind 5 = .ok (.return_, 1) := by decide +kernel
theorem dX8_needBaker_0 : decode cX8_needBaker 0 = .ok (.iload_n 1, 1) := by decide +kernel
theorem dX8_needBaker_1 : decode cX8_needBaker 1 = .ok (.aload_n 0, 1) := by decide +kernel
theorem dX8_needBaker_2 : decode cX8_needBaker 2 = .ok (.getfield 10, 3) := by decide +kernel
theorem dX8_needBaker_5 : decode cX8_needBaker 5 = .ok (.getfield 120, 3) := by decide +kernel
theorem dX8_needBaker_8 : decode cX8_needBaker 8 = .ok (.getfield 124, 3) := by decide +kernel
theorem dX8_needBaker_11 : decode cX8_needBaker 11 = .ok (.invokestatic 354, 3) := by decide +kernel
theorem dX8_needBaker_14 : decode cX8_needBaker 14 = .ok (.return_, 1) := by decide +kernel
theorem dX8_needCustomer_0 : decode cX8_needCustomer 0 = .ok (.iload_n 1, 1) := by decide +kernel
theorem dX8_needCustomer_1 : decode cX8_needCustomer 1 = .ok (.aload_n 0, 1) := by decide +kernel
theorem dX8_needCustomer_2 : decode cX8_needCustomer 2 = .ok (.getfield 10, 3) := by decide +kernel
theorem dX8_needCustomer_5 : decode cX8_needCustomer 5 = .ok (.getfield 108, 3) := by decide +kernel
theorem dX8_needCustomer_8 : decode cX8_needCustomer 8 = .ok (.getfield 112, 3) := by decide +kernel
theorem dX8_needCustomer_11 : decode cX8_needCustomer 11 = .ok (.invokestatic 354, 3) := by decide +kernel
theorem dX8_needCustomer_14 : decode cX8_needCustomer 14 = .ok (.return_, 1) := by decide +kernel
theorem dX8_needLoaf_0 : decode cX8_needLoaf 0 = .ok (.iload_n 1, 1) := by decide +kernel
theorem dX8_needLoaf_1 : decode cX8_needLoaf 1 = .ok (.aload_n 0, 1) := by decide +kernel
theorem dX8_needLoaf_2 : decode cX8_needLoaf 2 = .ok (.getfield 10, 3) := by decide +kernel
theorem dX8_needLoaf_5 : decode cX8_needLoaf 5 = .ok (.getfield 127, 3) := by decide +kernel
theorem dX8_needLoaf_8 : decode cX8_needLoaf 8 = .ok (.getfield 131, 3) := by decide +kernel
theorem dX8_needLoaf_11 : decode cX8_needLoaf 11 = .ok (.invokestatic 354, 3) := by decide +kernel
theorem dX8_needLoaf_14 : decode cX8_needLoaf 14 = .ok (.return_, 1) := by decide +kernel
theorem dX8_needEvent_0 : decode cX8_needEvent 0 = .ok (.iload_n 1, 1) := by decide +kernel
theorem dX8_needEvent_1 : decode cX8_needEvent 1 = .ok (.aload_n 0, 1) := by decide +kernel
theorem dX8_needEvent_2 : decode cX8_needEvent 2 = .ok (.getfield 10, 3) := by decide +kernel
theorem dX8_needEvent_5 : decode cX8_needEvent 5 = .ok (.getfield 242, 3) := by decide +kernel
theorem dX8_needEvent_8 : decode cX8_needEvent 8 = .ok (.getfield 246, 3) := by decide +kernel
theorem dX8_needEvent_11 : decode cX8_needEvent 11 = .ok (.invokestatic 354, 3) := by decide +kernel
theorem dX8_needEvent_14 : decode cX8_needEvent 14 = .ok (.return_, 1) := by decide +kernel
theorem dX8_appendWord_0 : decode cX8_appendWord 0 = .ok (.bipush 24, 2) := by decide +kernel
theorem dX8_appendWord_2 : decode cX8_appendWord 2 = .ok (.istore_n 2, 1) := by decide +kernel
theorem dX8_appendWord_3 : decode cX8_appendWord 3 = .ok (.iload_n 2, 1) := by decide +kernel
theorem dX8_appendWord_4 : decode cX8_appendWord 4 = .ok (.ifCond .lt 42, 3) := by decide +kernel
theorem dX8_appendWord_7 : decode cX8_appendWord 7 = .ok (.aload_n 0, 1) := by decide +kernel
theorem dX8_appendWord_8 : decode cX8_appendWord 8 = .ok (.getfield 69, 3) := by decide +kernel
theorem dX8_appendWord_11 : decode cX8_appendWord 11 = .ok (.sipush 600, 3) := by decide +kernel
theorem dX8_appendWord_14 : decode cX8_appendWord 14 = .ok (.if_icmp .ge 32, 3) := by decide +kernel
theorem dX8_appendWord_17 : decode cX8_appendWord 17 = .ok (.aload_n 0, 1) := by decide +kernel
theorem dX8_appendWord_18 : decode cX8_appendWord 18 = .ok (.getfield 26, 3) := by decide +kernel
theorem dX8_appendWord_21 : decode cX8_appendWord 21 = .ok (.aload_n 0, 1) := by decide +kernel
theorem dX8_appendWord_22 : decode cX8_appendWord 22 = .ok (.getfield 69, 3) := by decide +kernel
theorem dX8_appendWord_25 : decode cX8_appendWord 25 = .ok (.iload_n 1, 1) := by decide +kernel
theorem dX8_appendWord_26 : decode cX8_appendWord 26 = .ok (.iload_n 2, 1) := by decide +kernel
theorem dX8_appendWord_27 : decode cX8_appendWord 27 = .ok (.ishr, 1) := by decide +kernel
theorem dX8_appendWord_28 : decode cX8_appendWord 28 = .ok (.i2b, 1) := by decide +kernel
theorem dX8_appendWord_29 : decode cX8_appendWord 29 = .ok (.bastore, 1) := by decide +kernel
theorem dX8_appendWord_30 : decode cX8_appendWord 30 = .ok (.aload_n 0, 1) := by decide +kernel
theorem dX8_appendWord_31 : decode cX8_appendWord 31 = .ok (.dup, 1) := by decide +kernel
theorem dX8_appendWord_32 : decode cX8_appendWord 32 = .ok (.getfield 69, 3) := by decide +kernel
theorem dX8_appendWord_35 : decode cX8_appendWord 35 = .ok (.iconst 1, 1) := by decide +kernel
theorem dX8_appendWord_36 : decode cX8_appendWord 36 = .ok (.iadd, 1) := by decide +kernel
theorem dX8_appendWord_37 : decode cX8_appendWord 37 = .ok (.putfield 69, 3) := by decide +kernel
theorem dX8_appendWord_40 : decode cX8_appendWord 40 = .ok (.iinc 2 (-8), 3) := by decide +kernel
theorem dX8_appendWord_43 : decode cX8_appendWord 43 = .ok (.goto (-40), 3) := by decide +kernel
theorem dX8_appendWord_46 : decode cX8_appendWord 46 = .ok (.return_, 1) := by decide +kernel
theorem dX8_remember_0 : decode cX8_remember 0 = .ok (.aload_n 0, 1) := by decide +kernel
theorem dX8_remember_1 : decode cX8_remember 1 = .ok (.getfield 342, 3) := by decide +kernel
theorem dX8_remember_4 : decode cX8_remember 4 = .ok (.bipush 8, 2) := by decide +kernel
theorem dX8_remember_6 : decode cX8_remember 6 = .ok (.if_icmp .lt 7, 3) := by decide +kernel
theorem dX8_remember_9 : decode cX8_remember 9 = .ok (.aload_n 0, 1) := by decide +kernel
theorem dX8_remember_10 : decode cX8_remember 10 = .ok (.invokevirtual 367, 3) := by decide +kernel
theorem dX8_remember_13 : decode cX8_remember 13 = .ok (.aload_n 0, 1) := by decide +kernel
theorem dX8_remember_14 : decode cX8_remember 14 = .ok (.getfield 46, 3) := by decide +kernel
theorem dX8_remember_17 : decode cX8_remember 17 = .ok (.aload_n 0, 1) := by decide +kernel
theorem dX8_remember_18 : decode cX8_remember 18 = .ok (.getfield 342, 3) := by decide +kernel
theorem dX8_remember_21 : decode cX8_remember 21 = .ok (.aaload, 1) := by decide +kernel
theorem dX8_remember_22 : decode cX8_remember 22 = .ok (.astore_n 1, 1) := by decide +kernel
theorem dX8_remember_23 : decode cX8_remember 23 = .ok (.aload_n 1, 1) := by decide +kernel
theorem dX8_remember_24 : decode cX8_remember 24 = .ok (.ifnonnull 21, 3) := by decide +kernel
theorem dX8_remember_27 : decode cX8_remember 27 = .ok (.new 7, 3) := by decide +kernel
theorem dX8_remember_30 : decode cX8_remember 30 = .ok (.dup, 1) := by decide +kernel
theorem dX8_remember_31 : decode cX8_remember 31 = .ok (.invokespecial 9, 3) := by decide +kernel
theorem dX8_remember_34 : decode cX8_remember 34 = .ok (.astore_n 1, 1) := by decide +kernel
theorem dX8_remember_35 : decode cX8_remember 35 = .ok (.aload_n 0, 1) := by decide +kernel
theorem dX8_remember_36 : decode cX8_remember 36 = .ok (.getfield 46, 3) := by decide +kernel
theorem dX8_remember_39 : decode cX8_remember 39 = .ok (.aload_n 0, 1) := by decide +kernel
theorem dX8_remember_40 : decode cX8_remember 40 = .ok (.getfield 342, 3) := by decide +kernel
theorem dX8_remember_43 : decode cX8_remember 43 = .ok (.aload_n 1, 1) := by decide +kernel
theorem dX8_remember_44 : decode cX8_remember 44 = .ok (.aastore, 1) := by decide +kernel
theorem dX8_remember_45 : decode cX8_remember 45 = .ok (.aload_n 1, 1) := by decide +kernel
theorem dX8_remember_46 : decode cX8_remember 46 = .ok (.aload_n 0, 1) := by decide +kernel
theorem dX8_remember_47 : decode cX8_remember 47 = .ok (.getfield 10, 3) := by decide +kernel
theorem dX8_remember_50 : decode cX8_remember 50 = .ok (.invokevirtual 104, 3) := by decide +kernel
theorem dX8_remember_53 : decode cX8_remember 53 = .ok (.aload_n 0, 1) := by decide +kernel
theorem dX8_remember_54 : decode cX8_remember 54 = .ok (.dup, 1) := by decide +kernel
theorem dX8_remember_55 : decode cX8_remember 55 = .ok (.getfield 342, 3) := by decide +kernel
theorem dX8_remember_58 : decode cX8_remember 58 = .ok (.iconst 1, 1) := by decide +kernel
theorem dX8_remember_59 : decode cX8_remember 59 = .ok (.iadd, 1) := by decide +kernel
theorem dX8_remember_60 : decode cX8_remember 60 = .ok (.putfield 342, 3) := by decide +kernel
theorem dX8_remember_63 : decode cX8_remember 63 = .ok (.return_, 1) := by decide +kernel
theorem dX8_forgetOldest_0 : decode cX8_forgetOldest 0 = .ok (.aload_n 0, 1) := by decide +kernel
theorem dX8_forgetOldest_1 : decode cX8_forgetOldest 1 = .ok (.getfield 46, 3) := by decide +kernel
theorem dX8_forgetOldest_4 : decode cX8_forgetOldest 4 = .ok (.iconst 0, 1) := by decide +kernel
theorem dX8_forgetOldest_5 : decode cX8_forgetOldest 5 = .ok (.aaload, 1) := by decide +kernel
theorem dX8_forgetOldest_6 : decode cX8_forgetOldest 6 = .ok (.astore_n 1, 1) := by decide +kernel
theorem dX8_forgetOldest_7 : decode cX8_forgetOldest 7 = .ok (.iconst 1, 1) := by decide +kernel
theorem dX8_forgetOldest_8 : decode cX8_forgetOldest 8 = .ok (.istore_n 2, 1) := by decide +kernel
theorem dX8_forgetOldest_9 : decode cX8_forgetOldest 9 = .ok (.iload_n 2, 1) := by decide +kernel
theorem dX8_forgetOldest_10 : decode cX8_forgetOldest 10 = .ok (.bipush 8, 2) := by decide +kernel
theorem dX8_forgetOldest_12 : decode cX8_forgetOldest 12 = .ok (.if_icmp .ge 23, 3) := by decide +kernel
theorem dX8_forgetOldest_15 : decode cX8_forgetOldest 15 = .ok (.aload_n 0, 1) := by decide +kernel
theorem dX8_forgetOldest_16 : decode cX8_forgetOldest 16 = .ok (.getfield 46, 3) := by decide +kernel
theorem dX8_forgetOldest_19 : decode cX8_forgetOldest 19 = .ok (.iload_n 2, 1) := by decide +kernel
theorem dX8_forgetOldest_20 : decode cX8_forgetOldest 20 = .ok (.iconst 1, 1) := by decide +kernel
theorem dX8_forgetOldest_21 : decode cX8_forgetOldest 21 = .ok (.isub, 1) := by decide +kernel
theorem dX8_forgetOldest_22 : decode cX8_forgetOldest 22 = .ok (.aload_n 0, 1) := by decide +kernel
theorem dX8_forgetOldest_23 : decode cX8_forgetOldest 23 = .ok (.getfield 46, 3) := by decide +kernel
theorem dX8_forgetOldest_26 : decode cX8_forgetOldest 26 = .ok (.iload_n 2, 1) := by decide +kernel
theorem dX8_forgetOldest_27 : decode cX8_forgetOldest 27 = .ok (.aaload, 1) := by decide +kernel
theorem dX8_forgetOldest_28 : decode cX8_forgetOldest 28 = .ok (.aastore, 1) := by decide +kernel
theorem dX8_forgetOldest_29 : decode cX8_forgetOldest 29 = .ok (.iinc 2 1, 3) := by decide +kernel
theorem dX8_forgetOldest_32 : decode cX8_forgetOldest 32 = .ok (.goto (-23), 3) := by decide +kernel
theorem dX8_forgetOldest_35 : decode cX8_forgetOldest 35 = .ok (.aload_n 0, 1) := by decide +kernel
theorem dX8_forgetOldest_36 : decode cX8_forgetOldest 36 = .ok (.getfield 46, 3) := by decide +kernel
theorem dX8_forgetOldest_39 : decode cX8_forgetOldest 39 = .ok (.bipush 7, 2) := by decide +kernel
theorem dX8_forgetOldest_41 : decode cX8_forgetOldest 41 = .ok (.aload_n 1, 1) := by decide +kernel
theorem dX8_forgetOldest_42 : decode cX8_forgetOldest 42 = .ok (.aastore, 1) := by decide +kernel
theorem dX8_forgetOldest_43 : decode cX8_forgetOldest 43 = .ok (.aload_n 0, 1) := by decide +kernel
theorem dX8_forgetOldest_44 : decode cX8_forgetOldest 44 = .ok (.bipush 7, 2) := by decide +kernel
theorem dX8_forgetOldest_46 : decode cX8_forgetOldest 46 = .ok (.putfield 342, 3) := by decide +kernel
theorem dX8_forgetOldest_49 : decode cX8_forgetOldest 49 = .ok (.return_, 1) := by decide +kernel
theorem dX8_packName_0 : decode cX8_packName 0 = .ok (.iload_n 1, 1) := by decide +kernel
theorem dX8_packName_1 : decode cX8_packName 1 = .ok (.ifCond .lt 21, 3) := by decide +kernel
theorem dX8_packName_4 : decode cX8_packName 4 = .ok (.iload_n 2, 1) := by decide +kernel
theorem dX8_packName_5 : decode cX8_packName 5 = .ok (.aload_n 0, 1) := by decide +kernel
theorem dX8_packName_6 : decode cX8_packName 6 = .ok (.arraylength, 1) := by decide +kernel
theorem dX8_packName_7 : decode cX8_packName 7 = .ok (.if_icmp .gt 15, 3) := by decide +kernel
theorem dX8_packName_10 : decode cX8_packName 10 = .ok (.iload_n 2, 1) := by decide +kernel
theorem dX8_packName_11 : decode cX8_packName 11 = .ok (.iload_n 1, 1) := by decide +kernel
theorem dX8_packName_12 : decode cX8_packName 12 = .ok (.if_icmp .le 10, 3) := by decide +kernel
theorem dX8_packName_15 : decode cX8_packName 15 = .ok (.iload_n 2, 1) := by decide +kernel
theorem dX8_packName_16 : decode cX8_packName 16 = .ok (.iload_n 1, 1) := by decide +kernel
theorem dX8_packName_17 : decode cX8_packName 17 = .ok (.isub, 1) := by decide +kernel
theorem dX8_packName_18 : decode cX8_packName 18 = .ok (.iconst 4, 1) := by decide +kernel
theorem dX8_packName_19 : decode cX8_packName 19 = .ok (.if_icmp .le 5, 3) := by decide +kernel
theorem dX8_packName_22 : decode cX8_packName 22 = .ok (.iconst (-1), 1) := by decide +kernel
theorem dX8_packName_23 : decode cX8_packName 23 = .ok (.ireturn, 1) := by decide +kernel
theorem dX8_packName_24 : decode cX8_packName 24 = .ok (.iconst 0, 1) := by decide +kernel
theorem dX8_packName_25 : decode cX8_packName 25 = .ok (.istore_n 3, 1) := by decide +kernel
theorem dX8_packName_26 : decode cX8_packName 26 = .ok (.iload_n 1, 1) := by decide +kernel
theorem dX8_packName_27 : decode cX8_packName 27 = .ok (.istore 4, 2) := by decide +kernel
theorem dX8_packName_29 : decode cX8_packName 29 = .ok (.iload 4, 2) := by decide +kernel
theorem dX8_packName_31 : decode cX8_packName 31 = .ok (.iload_n 2, 1) := by decide +kernel
theorem dX8_packName_32 : decode cX8_packName 32 = .ok (.if_icmp .ge 36, 3) := by decide +kernel
theorem dX8_packName_35 : decode cX8_packName 35 = .ok (.aload_n 0, 1) := by decide +kernel
theorem dX8_packName_36 : decode cX8_packName 36 = .ok (.iload 4, 2) := by decide +kernel
theorem dX8_packName_38 : decode cX8_packName 38 = .ok (.baload, 1) := by decide +kernel
theorem dX8_packName_39 : decode cX8_packName 39 = .ok (.invokestatic 370, 3) := by decide +kernel
theorem dX8_packName_42 : decode cX8_packName 42 = .ok (.ifCond .ne 5, 3) := by decide +kernel
theorem dX8_packName_45 : decode cX8_packName 45 = .ok (.iconst (-1), 1) := by decide +kernel
theorem dX8_packName_46 : decode cX8_packName 46 = .ok (.ireturn, 1) := by decide +kernel
theorem dX8_packName_47 : decode cX8_packName 47 = .ok (.iload_n 3, 1) := by decide +kernel
theorem dX8_packName_48 : decode cX8_packName 48 = .ok (.aload_n 0, 1) := by decide +kernel
theorem dX8_packName_49 : decode cX8_packName 49 = .ok (.iload 4, 2) := by decide +kernel
theorem dX8_packName_51 : decode cX8_packName 51 = .ok (.baload, 1) := by decide +kernel
theorem dX8_packName_52 : decode cX8_packName 52 = .ok (.bipush 8, 2) := by decide +kernel
theorem dX8_packName_54 : decode cX8_packName 54 = .ok (.iload 4, 2) := by decide +kernel
theorem dX8_packName_56 : decode cX8_packName 56 = .ok (.iload_n 1, 1) := by decide +kernel
theorem dX8_packName_57 : decode cX8_packName 57 = .ok (.isub, 1) := by decide +kernel
theorem dX8_packName_58 : decode cX8_packName 58 = .ok (.imul, 1) := by decide +kernel
theorem dX8_packName_59 : decode cX8_packName 59 = .ok (.ishl, 1) := by decide +kernel
theorem dX8_packName_60 : decode cX8_packName 60 = .ok (.ior, 1) := by decide +kernel
theorem dX8_packName_61 : decode cX8_packName 61 = .ok (.istore_n 3, 1) := by decide +kernel
theorem dX8_packName_62 : decode cX8_packName 62 = .ok (.iinc 4 1, 3) := by decide +kernel
theorem dX8_packName_65 : decode cX8_packName 65 = .ok (.goto (-36), 3) := by decide +kernel
theorem dX8_packName_68 : decode cX8_packName 68 = .ok (.iload_n 3, 1) := by decide +kernel
theorem dX8_packName_69 : decode cX8_packName 69 = .ok (.ireturn, 1) := by decide +kernel
theorem dX8_isLetter_0 : decode cX8_isLetter 0 = .ok (.iload_n 0, 1) := by decide +kernel
theorem dX8_isLetter_1 : decode cX8_isLetter 1 = .ok (.bipush 97, 2) := by decide +kernel
theorem dX8_isLetter_3 : decode cX8_isLetter 3 = .ok (.if_icmp .lt 13, 3) := by decide +kernel
theorem dX8_isLetter_6 : decode cX8_isLetter 6 = .ok (.iload_n 0, 1) := by decide +kernel
theorem dX8_isLetter_7 : decode cX8_isLetter 7 = .ok (.bipush 122, 2) := by decide +kernel
theorem dX8_isLetter_9 : decode cX8_isLetter 9 = .ok (.if_icmp .gt 7, 3) := by decide +kernel
theorem dX8_isLetter_12 : decode cX8_isLetter 12 = .ok (.iconst 1, 1) := by decide +kernel
theorem dX8_isLetter_13 : decode cX8_isLetter 13 = .ok (.goto 4, 3) := by decide +kernel
theorem dX8_isLetter_16 : decode cX8_isLetter 16 = .ok (.iconst 0, 1) := by decide +kernel
theorem dX8_isLetter_17 : decode cX8_isLetter 17 = .ok (.ireturn, 1) := by decide +kernel
theorem dX8_isDigit_0 : decode cX8_isDigit 0 = .ok (.iload_n 0, 1) := by decide +kernel
theorem dX8_isDigit_1 : decode cX8_isDigit 1 = .ok (.bipush 48, 2) := by decide +kernel
theorem dX8_isDigit_3 : decode cX8_isDigit 3 = .ok (.if_icmp .lt 13, 3) := by decide +kernel
theorem dX8_isDigit_6 : decode cX8_isDigit 6 = .ok (.iload_n 0, 1) := by decide +kernel
theorem dX8_isDigit_7 : decode cX8_isDigit 7 = .ok (.bipush 57, 2) := by decide +kernel
theorem dX8_isDigit_9 : decode cX8_isDigit 9 = .ok (.if_icmp .gt 7, 3) := by decide +kernel
theorem dX8_isDigit_12 : decode cX8_isDigit 12 = .ok (.iconst 1, 1) := by decide +kernel
theorem dX8_isDigit_13 : decode cX8_isDigit 13 = .ok (.goto 4, 3) := by decide +kernel
theorem dX8_isDigit_16 : decode cX8_isDigit 16 = .ok (.iconst 0, 1) := by decide +kernel
theorem dX8_isDigit_17 : decode cX8_isDigit 17 = .ok (.ireturn, 1) := by decide +kernel
theorem dX8_reserve_0 : decode cX8_reserve 0 = .ok (.iload_n 0, 1) := by decide +kernel
theorem dX8_reserve_1 : decode cX8_reserve 1 = .ok (.ifCond .ne 32, 3) := by decide +kernel
theorem dX8_reserve_4 : decode cX8_reserve 4 = .ok (.iload_n 2, 1) := by decide +kernel
theorem dX8_reserve_5 : decode cX8_reserve 5 = .ok (.bipush 24, 2) := by decide +kernel
theorem dX8_reserve_7 : decode cX8_reserve 7 = .ok (.if_icmp .gt 7, 3) := by decide +kernel
theorem dX8_reserve_10 : decode cX8_reserve 10 = .ok (.iload_n 1, 1) := by decide +kernel
theorem dX8_reserve_11 : decode cX8_reserve 11 = .ok (.goto 11, 3) := by decide +kernel
theorem dX8_reserve_14 : decode cX8_reserve 14 = .ok (.iload_n 1, 1) := by decide +kernel
theorem dX8_reserve_15 : decode cX8_reserve 15 = .ok (.iconst 2, 1) := by decide +kernel
theorem dX8_reserve_16 : decode cX8_reserve 16 = .ok (.iload_n 2, 1) := by decide +kernel
theorem dX8_reserve_17 : decode cX8_reserve 17 = .ok (.bipush 24, 2) := by decide +kernel
theorem dX8_reserve_19 : decode cX8_reserve 19 = .ok (.isub, 1) := by decide +kernel
theorem dX8_reserve_20 : decode cX8_reserve 20 = .ok (.imul, 1) := by decide +kernel
theorem dX8_reserve_21 : decode cX8_reserve 21 = .ok (.isub, 1) := by decide +kernel
theorem dX8_reserve_22 : decode cX8_reserve 22 = .ok (.istore_n 3, 1) := by decide +kernel
theorem dX8_reserve_23 : decode cX8_reserve 23 = .ok (.iload_n 3, 1) := by decide +kernel
theorem dX8_reserve_24 : decode cX8_reserve 24 = .ok (.ifCond .ge 7, 3) := by decide +kernel
theorem dX8_reserve_27 : decode cX8_reserve 27 = .ok (.iconst 0, 1) := by decide +kernel
theorem dX8_reserve_28 : decode cX8_reserve 28 = .ok (.goto 4, 3) := by decide +kernel
theorem dX8_reserve_31 : decode cX8_reserve 31 = .ok (.iload_n 3, 1) := by decide +kernel
theorem dX8_reserve_32 : decode cX8_reserve 32 = .ok (.ireturn, 1) := by decide +kernel
theorem dX8_reserve_33 : decode cX8_reserve 33 = .ok (.iload_n 0, 1) := by decide +kernel
theorem dX8_reserve_34 : decode cX8_reserve 34 = .ok (.iconst 1, 1) := by decide +kernel
theorem dX8_reserve_35 : decode cX8_reserve 35 = .ok (.if_icmp .ne 22, 3) := by decide +kernel
theorem dX8_reserve_38 : decode cX8_reserve 38 = .ok (.iload_n 1, 1) := by decide +kernel
theorem dX8_reserve_39 : decode cX8_reserve 39 = .ok (.iload_n 1, 1) := by decide +kernel
theorem dX8_reserve_40 : decode cX8_reserve 40 = .ok (.iload_n 2, 1) := by decide +kernel
theorem dX8_reserve_41 : decode cX8_reserve 41 = .ok (.imul, 1) := by decide +kernel
theorem dX8_reserve_42 : decode cX8_reserve 42 = .ok (.bipush 20, 2) := by decide +kernel
theorem dX8_reserve_44 : decode cX8_reserve 44 = .ok (.idiv, 1) := by decide +kernel
theorem dX8_reserve_45 : decode cX8_reserve 45 = .ok (.isub, 1) := by decide +kernel
theorem dX8_reserve_46 : decode cX8_reserve 46 = .ok (.istore_n 3, 1) := by decide +kernel
theorem dX8_reserve_47 : decode cX8_reserve 47 = .ok (.iload_n 3, 1) := by decide +kernel
theorem dX8_reserve_48 : decode cX8_reserve 48 = .ok (.ifCond .ge 7, 3) := by decide +kernel
theorem dX8_reserve_51 : decode cX8_reserve 51 = .ok (.iconst 0, 1) := by decide +kernel
theorem dX8_reserve_52 : decode cX8_reserve 52 = .ok (.goto 4, 3) := by decide +kernel
theorem dX8_reserve_55 : decode cX8_reserve 55 = .ok (.iload_n 3, 1) := by decide +kernel
theorem dX8_reserve_56 : decode cX8_reserve 56 = .ok (.ireturn, 1) := by decide +kernel
theorem dX8_reserve_57 : decode cX8_reserve 57 = .ok (.iload_n 2, 1) := by decide +kernel
theorem dX8_reserve_58 : decode cX8_reserve 58 = .ok (.iconst 4, 1) := by decide +kernel
theorem dX8_reserve_59 : decode cX8_reserve 59 = .ok (.idiv, 1) := by decide +kernel
theorem dX8_reserve_60 : decode cX8_reserve 60 = .ok (.istore_n 3, 1) := by decide +kernel
theorem dX8_reserve_61 : decode cX8_reserve 61 = .ok (.iload_n 3, 1) := by decide +kernel
theorem dX8_reserve_62 : decode cX8_reserve 62 = .ok (.bipush 7, 2) := by decide +kernel
theorem dX8_reserve_64 : decode cX8_reserve 64 = .ok (.if_icmp .le 7, 3) := by decide +kernel
theorem dX8_reserve_67 : decode cX8_reserve 67 = .ok (.iconst 0, 1) := by decide +kernel
theorem dX8_reserve_68 : decode cX8_reserve 68 = .ok (.goto 6, 3) := by decide +kernel
theorem dX8_reserve_71 : decode cX8_reserve 71 = .ok (.iload_n 1, 1) := by decide +kernel
theorem dX8_reserve_72 : decode cX8_reserve 72 = .ok (.iload_n 3, 1) := by decide +kernel
theorem dX8_reserve_73 : decode cX8_reserve 73 = .ok (.ishr, 1) := by decide +kernel
theorem dX8_reserve_74 : decode cX8_reserve 74 = .ok (.ireturn, 1) := by decide +kernel
theorem dX8_copyRow_0 : decode cX8_copyRow 0 = .ok (.aload_n 0, 1) := by decide +kernel
theorem dX8_copyRow_1 : decode cX8_copyRow 1 = .ok (.arraylength, 1) := by decide +kernel
theorem dX8_copyRow_2 : decode cX8_copyRow 2 = .ok (.aload_n 1, 1) := by decide +kernel
theorem dX8_copyRow_3 : decode cX8_copyRow 3 = .ok (.arraylength, 1) := by decide +kernel
theorem dX8_copyRow_4 : decode cX8_copyRow 4 = .ok (.if_icmp .ge 8, 3) := by decide +kernel
theorem dX8_copyRow_7 : decode cX8_copyRow 7 = .ok (.aload_n 0, 1) := by decide +kernel
theorem dX8_copyRow_8 : decode cX8_copyRow 8 = .ok (.arraylength, 1) := by decide +kernel
theorem dX8_copyRow_9 : decode cX8_copyRow 9 = .ok (.goto 5, 3) := by decide +kernel
theorem dX8_copyRow_12 : decode cX8_copyRow 12 = .ok (.aload_n 1, 1) := by decide +kernel
theorem dX8_copyRow_13 : decode cX8_copyRow 13 = .ok (.arraylength, 1) := by decide +kernel
theorem dX8_copyRow_14 : decode cX8_copyRow 14 = .ok (.istore_n 2, 1) := by decide +kernel
theorem dX8_copyRow_15 : decode cX8_copyRow 15 = .ok (.aload_n 0, 1) := by decide +kernel
theorem dX8_copyRow_16 : decode cX8_copyRow 16 = .ok (.iconst 0, 1) := by decide +kernel
theorem dX8_copyRow_17 : decode cX8_copyRow 17 = .ok (.aload_n 1, 1) := by decide +kernel
theorem dX8_copyRow_18 : decode cX8_copyRow 18 = .ok (.iconst 0, 1) := by decide +kernel
theorem dX8_copyRow_19 : decode cX8_copyRow 19 = .ok (.iload_n 2, 1) := by decide +kernel
theorem dX8_copyRow_20 : decode cX8_copyRow 20 = .ok (.invokestatic 373, 3) := by decide +kernel
theorem dX8_copyRow_23 : decode cX8_copyRow 23 = .ok (.return_, 1) := by decide +kernel
theorem dX8_find_0 : decode cX8_find 0 = .ok (.iconst 0, 1) := by decide +kernel
theorem dX8_find_1 : decode cX8_find 1 = .ok (.istore_n 3, 1) := by decide +kernel
theorem dX8_find_2 : decode cX8_find 2 = .ok (.iload_n 3, 1) := by decide +kernel
theorem dX8_find_3 : decode cX8_find 3 = .ok (.iload_n 1, 1) := by decide +kernel
theorem dX8_find_4 : decode cX8_find 4 = .ok (.if_icmp .ge 24, 3) := by decide +kernel
theorem dX8_find_7 : decode cX8_find 7 = .ok (.iload_n 3, 1) := by decide +kernel
theorem dX8_find_8 : decode cX8_find 8 = .ok (.aload_n 0, 1) := by decide +kernel
theorem dX8_find_9 : decode cX8_find 9 = .ok (.arraylength, 1) := by decide +kernel
theorem dX8_find_10 : decode cX8_find 10 = .ok (.if_icmp .ge 18, 3) := by decide +kernel
theorem dX8_find_13 : decode cX8_find 13 = .ok (.aload_n 0, 1) := by decide +kernel
theorem dX8_find_14 : decode cX8_find 14 = .ok (.iload_n 3, 1) := by decide +kernel
theorem dX8_find_15 : decode cX8_find 15 = .ok (.iaload, 1) := by decide +kernel
theorem dX8_find_16 : decode cX8_find 16 = .ok (.iload_n 2, 1) := by decide +kernel
theorem dX8_find_17 : decode cX8_find 17 = .ok (.if_icmp .ne 5, 3) := by decide +kernel
theorem dX8_find_20 : decode cX8_find 20 = .ok (.iload_n 3, 1) := by decide +kernel
theorem dX8_find_21 : decode cX8_find 21 = .ok (.ireturn, 1) := by decide +kernel
theorem dX8_find_22 : decode cX8_find 22 = .ok (.iinc 3 1, 3) := by decide +kernel
theorem dX8_find_25 : decode cX8_find 25 = .ok (.goto (-23), 3) := by decide +kernel
theorem dX8_find_28 : decode cX8_find 28 = .ok (.iconst (-1), 1) := by decide +kernel
theorem dX8_find_29 : decode cX8_find 29 = .ok (.ireturn, 1) := by decide +kernel
theorem dX8_sum_0 : decode cX8_sum 0 = .ok (.iconst 0, 1) := by decide +kernel
theorem dX8_sum_1 : decode cX8_sum 1 = .ok (.istore_n 2, 1) := by decide +kernel
theorem dX8_sum_2 : decode cX8_sum 2 = .ok (.iconst 0, 1) := by decide +kernel
theorem dX8_sum_3 : decode cX8_sum 3 = .ok (.istore_n 3, 1) := by decide +kernel
theorem dX8_sum_4 : decode cX8_sum 4 = .ok (.iload_n 3, 1) := by decide +kernel
theorem dX8_sum_5 : decode cX8_sum 5 = .ok (.iload_n 1, 1) := by decide +kernel
theorem dX8_sum_6 : decode cX8_sum 6 = .ok (.if_icmp .ge 21, 3) := by decide +kernel
theorem dX8_sum_9 : decode cX8_sum 9 = .ok (.iload_n 3, 1) := by decide +kernel
theorem dX8_sum_10 : decode cX8_sum 10 = .ok (.aload_n 0, 1) := by decide +kernel
theorem dX8_sum_11 : decode cX8_sum 11 = .ok (.arraylength, 1) := by decide +kernel
theorem dX8_sum_12 : decode cX8_sum 12 = .ok (.if_icmp .ge 15, 3) := by decide +kernel
theorem dX8_sum_15 : decode cX8_sum 15 = .ok (.iload_n 2, 1) := by decide +kernel
theorem dX8_sum_16 : decode cX8_sum 16 = .ok (.aload_n 0, 1) := by decide +kernel
theorem dX8_sum_17 : decode cX8_sum 17 = .ok (.iload_n 3, 1) := by decide +kernel
theorem dX8_sum_18 : decode cX8_sum 18 = .ok (.iaload, 1) := by decide +kernel
theorem dX8_sum_19 : decode cX8_sum 19 = .ok (.iadd, 1) := by decide +kernel
theorem dX8_sum_20 : decode cX8_sum 20 = .ok (.istore_n 2, 1) := by decide +kernel
theorem dX8_sum_21 : decode cX8_sum 21 = .ok (.iinc 3 1, 3) := by decide +kernel
theorem dX8_sum_24 : decode cX8_sum 24 = .ok (.goto (-20), 3) := by decide +kernel
theorem dX8_sum_27 : decode cX8_sum 27 = .ok (.iload_n 2, 1) := by decide +kernel
theorem dX8_sum_28 : decode cX8_sum 28 = .ok (.ireturn, 1) := by decide +kernel
