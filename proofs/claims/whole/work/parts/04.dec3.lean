theorem dX9_bakerNamed_3 : decode cX9_bakerNamed 3 = .ok (.aload_n 0, 1) := by decide +kernel
theorem dX9_bakerNamed_4 : decode cX9_bakerNamed 4 = .ok (.iconst 1, 1) := by decide +kernel
theorem dX9_bakerNamed_5 : decode cX9_bakerNamed 5 = .ok (.iaload, 1) := by decide +kernel
theorem dX9_bakerNamed_6 : decode cX9_bakerNamed 6 = .ok (.if_icmp .ge 23, 3) := by decide +kernel
theorem dX9_bakerNamed_9 : decode cX9_bakerNamed 9 = .ok (.aload_n 0, 1) := by decide +kernel
theorem dX9_bakerNamed_10 : decode cX9_bakerNamed 10 = .ok (.iload_n 2, 1) := by decide +kernel
theorem dX9_bakerNamed_11 : decode cX9_bakerNamed 11 = .ok (.invokestatic 100, 3) := by decide +kernel
theorem dX9_bakerNamed_14 : decode cX9_bakerNamed 14 = .ok (.iconst 0, 1) := by decide +kernel
theorem dX9_bakerNamed_15 : decode cX9_bakerNamed 15 = .ok (.iadd, 1) := by decide +kernel
theorem dX9_bakerNamed_16 : decode cX9_bakerNamed 16 = .ok (.iaload, 1) := by decide +kernel
theorem dX9_bakerNamed_17 : decode cX9_bakerNamed 17 = .ok (.iload_n 1, 1) := by decide +kernel
theorem dX9_bakerNamed_18 : decode cX9_bakerNamed 18 = .ok (.if_icmp .ne 5, 3) := by decide +kernel
theorem dX9_bakerNamed_21 : decode cX9_bakerNamed 21 = .ok (.iload_n 2, 1) := by decide +kernel
theorem dX9_bakerNamed_22 : decode cX9_bakerNamed 22 = .ok (.ireturn, 1) := by decide +kernel
theorem dX9_bakerNamed_23 : decode cX9_bakerNamed 23 = .ok (.iinc 2 1, 3) := by decide +kernel
theorem dX9_bakerNamed_26 : decode cX9_bakerNamed 26 = .ok (.goto (-24), 3) := by decide +kernel
theorem dX9_bakerNamed_29 : decode cX9_bakerNamed 29 = .ok (.iconst (-1), 1) := by decide +kernel
theorem dX9_bakerNamed_30 : decode cX9_bakerNamed 30 = .ok (.ireturn, 1) := by decide +kernel
theorem dX9_isTaken_0 : decode cX9_isTaken 0 = .ok (.aload_n 0, 1) := by decide +kernel
theorem dX9_isTaken_1 : decode cX9_isTaken 1 = .ok (.iload_n 1, 1) := by decide +kernel
theorem dX9_isTaken_2 : decode cX9_isTaken 2 = .ok (.invokestatic 221, 3) := by decide +kernel
theorem dX9_isTaken_5 : decode cX9_isTaken 5 = .ok (.iconst (-1), 1) := by decide +kernel
theorem dX9_isTaken_6 : decode cX9_isTaken 6 = .ok (.if_icmp .eq 7, 3) := by decide +kernel
theorem dX9_isTaken_9 : decode cX9_isTaken 9 = .ok (.iconst 1, 1) := by decide +kernel
theorem dX9_isTaken_10 : decode cX9_isTaken 10 = .ok (.goto 4, 3) := by decide +kernel
theorem dX9_isTaken_13 : decode cX9_isTaken 13 = .ok (.iconst 0, 1) := by decide +kernel
theorem dX9_isTaken_14 : decode cX9_isTaken 14 = .ok (.istore_n 2, 1) := by decide +kernel
theorem dX9_isTaken_15 : decode cX9_isTaken 15 = .ok (.iconst 0, 1) := by decide +kernel
theorem dX9_isTaken_16 : decode cX9_isTaken 16 = .ok (.istore_n 3, 1) := by decide +kernel
theorem dX9_isTaken_17 : decode cX9_isTaken 17 = .ok (.iload_n 3, 1) := by decide +kernel
theorem dX9_isTaken_18 : decode cX9_isTaken 18 = .ok (.aload_n 0, 1) := by decide +kernel
theorem dX9_isTaken_19 : decode cX9_isTaken 19 = .ok (.iconst 2, 1) := by decide +kernel
theorem dX9_isTaken_20 : decode cX9_isTaken 20 = .ok (.iaload, 1) := by decide +kernel
theorem dX9_isTaken_21 : decode cX9_isTaken 21 = .ok (.if_icmp .ge 31, 3) := by decide +kernel
theorem dX9_isTaken_24 : decode cX9_isTaken 24 = .ok (.iload_n 2, 1) := by decide +kernel
theorem dX9_isTaken_25 : decode cX9_isTaken 25 = .ok (.ifCond .ne 15, 3) := by decide +kernel
theorem dX9_isTaken_28 : decode cX9_isTaken 28 = .ok (.aload_n 0, 1) := by decide +kernel
theorem dX9_isTaken_29 : decode cX9_isTaken 29 = .ok (.iload_n 3, 1) := by decide +kernel
theorem dX9_isTaken_30 : decode cX9_isTaken 30 = .ok (.invokestatic 111, 3) := by decide +kernel
theorem dX9_isTaken_33 : decode cX9_isTaken 33 = .ok (.iconst 0, 1) := by decide +kernel
theorem dX9_isTaken_34 : decode cX9_isTaken 34 = .ok (.iadd, 1) := by decide +kernel
theorem dX9_isTaken_35 : decode cX9_isTaken 35 = .ok (.iaload, 1) := by decide +kernel
theorem dX9_isTaken_36 : decode cX9_isTaken 36 = .ok (.iload_n 1, 1) := by decide +kernel
theorem dX9_isTaken_37 : decode cX9_isTaken 37 = .ok (.if_icmp .ne 7, 3) := by decide +kernel
theorem dX9_isTaken_40 : decode cX9_isTaken 40 = .ok (.iconst 1, 1) := by decide +kernel
theorem dX9_isTaken_41 : decode cX9_isTaken 41 = .ok (.goto 4, 3) := by decide +kernel
theorem dX9_isTaken_44 : decode cX9_isTaken 44 = .ok (.iconst 0, 1) := by decide +kernel
theorem dX9_isTaken_45 : decode cX9_isTaken 45 = .ok (.istore_n 2, 1) := by decide +kernel
theorem dX9_isTaken_46 : decode cX9_isTaken 46 = .ok (.iinc 3 1, 3) := by decide +kernel
theorem dX9_isTaken_49 : decode cX9_isTaken 49 = .ok (.goto (-32), 3) := by decide +kernel
theorem dX9_isTaken_52 : decode cX9_isTaken 52 = .ok (.iload_n 2, 1) := by decide +kernel
theorem dX9_isTaken_53 : decode cX9_isTaken 53 = .ok (.ireturn, 1) := by decide +kernel
theorem dX9_newName_0 : decode cX9_newName 0 = .ok (.aload_n 0, 1) := by decide +kernel
theorem dX9_newName_1 : decode cX9_newName 1 = .ok (.aload_n 0, 1) := by decide +kernel
theorem dX9_newName_2 : decode cX9_newName 2 = .ok (.getfield 201, 3) := by decide +kernel
theorem dX9_newName_5 : decode cX9_newName 5 = .ok (.iconst 3, 1) := by decide +kernel
theorem dX9_newName_6 : decode cX9_newName 6 = .ok (.if_icmp .ne 7, 3) := by decide +kernel
theorem dX9_newName_9 : decode cX9_newName 9 = .ok (.iconst 1, 1) := by decide +kernel
theorem dX9_newName_10 : decode cX9_newName 10 = .ok (.goto 4, 3) := by decide +kernel
theorem dX9_newName_13 : decode cX9_newName 13 = .ok (.iconst 0, 1) := by decide +kernel
theorem dX9_newName_14 : decode cX9_newName 14 = .ok (.iconst 1, 1) := by decide +kernel
theorem dX9_newName_15 : decode cX9_newName 15 = .ok (.invokevirtual 212, 3) := by decide +kernel
theorem dX9_newName_18 : decode cX9_newName 18 = .ok (.pop, 1) := by decide +kernel
theorem dX9_newName_19 : decode cX9_newName 19 = .ok (.aload_n 0, 1) := by decide +kernel
theorem dX9_newName_20 : decode cX9_newName 20 = .ok (.getfield 180, 3) := by decide +kernel
theorem dX9_newName_23 : decode cX9_newName 23 = .ok (.ifCond .ne 18, 3) := by decide +kernel
theorem dX9_newName_26 : decode cX9_newName 26 = .ok (.aload_n 0, 1) := by decide +kernel
theorem dX9_newName_27 : decode cX9_newName 27 = .ok (.aload_n 0, 1) := by decide +kernel
theorem dX9_newName_28 : decode cX9_newName 28 = .ok (.getfield 192, 3) := by decide +kernel
theorem dX9_newName_31 : decode cX9_newName 31 = .ok (.aload_n 0, 1) := by decide +kernel
theorem dX9_newName_32 : decode cX9_newName 32 = .ok (.getfield 195, 3) := by decide +kernel
theorem dX9_newName_35 : decode cX9_newName 35 = .ok (.invokevirtual 224, 3) := by decide +kernel
theorem dX9_newName_38 : decode cX9_newName 38 = .ok (.goto 4, 3) := by decide +kernel
theorem dX9_newName_41 : decode cX9_newName 41 = .ok (.iconst 0, 1) := by decide +kernel
theorem dX9_newName_42 : decode cX9_newName 42 = .ok (.istore_n 1, 1) := by decide +kernel
theorem dX9_newName_43 : decode cX9_newName 43 = .ok (.aload_n 0, 1) := by decide +kernel
theorem dX9_newName_44 : decode cX9_newName 44 = .ok (.iload_n 1, 1) := by decide +kernel
theorem dX9_newName_45 : decode cX9_newName 45 = .ok (.iconst (-1), 1) := by decide +kernel
theorem dX9_newName_46 : decode cX9_newName 46 = .ok (.if_icmp .eq 7, 3) := by decide +kernel
theorem dX9_newName_49 : decode cX9_newName 49 = .ok (.iconst 1, 1) := by decide +kernel
theorem dX9_newName_50 : decode cX9_newName 50 = .ok (.goto 4, 3) := by decide +kernel
theorem dX9_newName_53 : decode cX9_newName 53 = .ok (.iconst 0, 1) := by decide +kernel
theorem dX9_newName_54 : decode cX9_newName 54 = .ok (.iconst 2, 1) := by decide +kernel
theorem dX9_newName_55 : decode cX9_newName 55 = .ok (.invokevirtual 212, 3) := by decide +kernel
theorem dX9_newName_58 : decode cX9_newName 58 = .ok (.pop, 1) := by decide +kernel
theorem dX9_newName_59 : decode cX9_newName 59 = .ok (.aload_n 0, 1) := by decide +kernel
theorem dX9_newName_60 : decode cX9_newName 60 = .ok (.aload_n 0, 1) := by decide +kernel
theorem dX9_newName_61 : decode cX9_newName 61 = .ok (.getfield 180, 3) := by decide +kernel
theorem dX9_newName_64 : decode cX9_newName 64 = .ok (.ifCond .ne 14, 3) := by decide +kernel
theorem dX9_newName_67 : decode cX9_newName 67 = .ok (.aload_n 0, 1) := by decide +kernel
theorem dX9_newName_68 : decode cX9_newName 68 = .ok (.getfield 13, 3) := by decide +kernel
theorem dX9_newName_71 : decode cX9_newName 71 = .ok (.iload_n 1, 1) := by decide +kernel
theorem dX9_newName_72 : decode cX9_newName 72 = .ok (.invokestatic 228, 3) := by decide +kernel
theorem dX9_newName_75 : decode cX9_newName 75 = .ok (.ifCond .ne 7, 3) := by decide +kernel
theorem dX9_newName_78 : decode cX9_newName 78 = .ok (.iconst 1, 1) := by decide +kernel
theorem dX9_newName_79 : decode cX9_newName 79 = .ok (.goto 4, 3) := by decide +kernel
theorem dX9_newName_82 : decode cX9_newName 82 = .ok (.iconst 0, 1) := by decide +kernel
theorem dX9_newName_83 : decode cX9_newName 83 = .ok (.iconst 3, 1) := by decide +kernel
theorem dX9_newName_84 : decode cX9_newName 84 = .ok (.invokevirtual 212, 3) := by decide +kernel
theorem dX9_newName_87 : decode cX9_newName 87 = .ok (.pop, 1) := by decide +kernel
theorem dX9_newName_88 : decode cX9_newName 88 = .ok (.aload_n 0, 1) := by decide +kernel
theorem dX9_newName_89 : decode cX9_newName 89 = .ok (.invokevirtual 215, 3) := by decide +kernel
theorem dX9_newName_92 : decode cX9_newName 92 = .ok (.iload_n 1, 1) := by decide +kernel
theorem dX9_newName_93 : decode cX9_newName 93 = .ok (.ireturn, 1) := by decide +kernel
theorem dX9_kind_0 : decode cX9_kind 0 = .ok (.aload_n 0, 1) := by decide +kernel
theorem dX9_kind_1 : decode cX9_kind 1 = .ok (.ldc 232, 2) := by decide +kernel
theorem dX9_kind_3 : decode cX9_kind 3 = .ok (.invokevirtual 234, 3) := by decide +kernel
theorem dX9_kind_6 : decode cX9_kind 6 = .ok (.ifCond .eq 7, 3) := by decide +kernel
theorem dX9_kind_9 : decode cX9_kind 9 = .ok (.iconst 0, 1) := by decide +kernel
theorem dX9_kind_10 : decode cX9_kind 10 = .ok (.goto 30, 3) := by decide +kernel
theorem dX9_kind_13 : decode cX9_kind 13 = .ok (.aload_n 0, 1) := by decide +kernel
theorem dX9_kind_14 : decode cX9_kind 14 = .ok (.ldc 238, 2) := by decide +kernel
theorem dX9_kind_16 : decode cX9_kind 16 = .ok (.invokevirtual 234, 3) := by decide +kernel
theorem dX9_kind_19 : decode cX9_kind 19 = .ok (.ifCond .eq 7, 3) := by decide +kernel
theorem dX9_kind_22 : decode cX9_kind 22 = .ok (.iconst 1, 1) := by decide +kernel
theorem dX9_kind_23 : decode cX9_kind 23 = .ok (.goto 17, 3) := by decide +kernel
theorem dX9_kind_26 : decode cX9_kind 26 = .ok (.aload_n 0, 1) := by decide +kernel
theorem dX9_kind_27 : decode cX9_kind 27 = .ok (.ldc 240, 2) := by decide +kernel
theorem dX9_kind_29 : decode cX9_kind 29 = .ok (.invokevirtual 234, 3) := by decide +kernel
theorem dX9_kind_32 : decode cX9_kind 32 = .ok (.ifCond .eq 7, 3) := by decide +kernel
theorem dX9_kind_35 : decode cX9_kind 35 = .ok (.iconst 2, 1) := by decide +kernel
theorem dX9_kind_36 : decode cX9_kind 36 = .ok (.goto 4, 3) := by decide +kernel
theorem dX9_kind_39 : decode cX9_kind 39 = .ok (.iconst (-1), 1) := by decide +kernel
theorem dX9_kind_40 : decode cX9_kind 40 = .ok (.istore_n 1, 1) := by decide +kernel
theorem dX9_kind_41 : decode cX9_kind 41 = .ok (.aload_n 0, 1) := by decide +kernel
theorem dX9_kind_42 : decode cX9_kind 42 = .ok (.iload_n 1, 1) := by decide +kernel
theorem dX9_kind_43 : decode cX9_kind 43 = .ok (.iconst (-1), 1) := by decide +kernel
theorem dX9_kind_44 : decode cX9_kind 44 = .ok (.if_icmp .eq 7, 3) := by decide +kernel
theorem dX9_kind_47 : decode cX9_kind 47 = .ok (.iconst 1, 1) := by decide +kernel
theorem dX9_kind_48 : decode cX9_kind 48 = .ok (.goto 4, 3) := by decide +kernel
theorem dX9_kind_51 : decode cX9_kind 51 = .ok (.iconst 0, 1) := by decide +kernel
theorem dX9_kind_52 : decode cX9_kind 52 = .ok (.iconst 1, 1) := by decide +kernel
theorem dX9_kind_53 : decode cX9_kind 53 = .ok (.invokevirtual 212, 3) := by decide +kernel
theorem dX9_kind_56 : decode cX9_kind 56 = .ok (.pop, 1) := by decide +kernel
theorem dX9_kind_57 : decode cX9_kind 57 = .ok (.aload_n 0, 1) := by decide +kernel
theorem dX9_kind_58 : decode cX9_kind 58 = .ok (.invokevirtual 215, 3) := by decide +kernel
theorem dX9_kind_61 : decode cX9_kind 61 = .ok (.iload_n 1, 1) := by decide +kernel
theorem dX9_kind_62 : decode cX9_kind 62 = .ok (.ireturn, 1) := by decide +kernel
theorem dX9_readBaker_0 : decode cX9_readBaker 0 = .ok (.aload_n 0, 1) := by decide +kernel
theorem dX9_readBaker_1 : decode cX9_readBaker 1 = .ok (.aload_n 0, 1) := by decide +kernel
theorem dX9_readBaker_2 : decode cX9_readBaker 2 = .ok (.getfield 13, 3) := by decide +kernel
theorem dX9_readBaker_5 : decode cX9_readBaker 5 = .ok (.iconst 1, 1) := by decide +kernel
theorem dX9_readBaker_6 : decode cX9_readBaker 6 = .ok (.iaload, 1) := by decide +kernel
theorem dX9_readBaker_7 : decode cX9_readBaker 7 = .ok (.iconst 4, 1) := by decide +kernel
theorem dX9_readBaker_8 : decode cX9_readBaker 8 = .ok (.if_icmp .ge 7, 3) := by decide +kernel
theorem dX9_readBaker_11 : decode cX9_readBaker 11 = .ok (.iconst 1, 1) := by decide +kernel
theorem dX9_readBaker_12 : decode cX9_readBaker 12 = .ok (.goto 4, 3) := by decide +kernel
theorem dX9_readBaker_15 : decode cX9_readBaker 15 = .ok (.iconst 0, 1) := by decide +kernel
theorem dX9_readBaker_16 : decode cX9_readBaker 16 = .ok (.iconst 5, 1) := by decide +kernel
theorem dX9_readBaker_17 : decode cX9_readBaker 17 = .ok (.invokevirtual 212, 3) := by decide +kernel
theorem dX9_readBaker_20 : decode cX9_readBaker 20 = .ok (.pop, 1) := by decide +kernel
theorem dX9_readBaker_21 : decode cX9_readBaker 21 = .ok (.aload_n 0, 1) := by decide +kernel
theorem dX9_readBaker_22 : decode cX9_readBaker 22 = .ok (.invokevirtual 215, 3) := by decide +kernel
theorem dX9_readBaker_25 : decode cX9_readBaker 25 = .ok (.aload_n 0, 1) := by decide +kernel
theorem dX9_readBaker_26 : decode cX9_readBaker 26 = .ok (.invokevirtual 242, 3) := by decide +kernel
theorem dX9_readBaker_29 : decode cX9_readBaker 29 = .ok (.istore_n 1, 1) := by decide +kernel
theorem dX9_readBaker_30 : decode cX9_readBaker 30 = .ok (.aload_n 0, 1) := by decide +kernel
theorem dX9_readBaker_31 : decode cX9_readBaker 31 = .ok (.iconst 1, 1) := by decide +kernel
theorem dX9_readBaker_32 : decode cX9_readBaker 32 = .ok (.bipush 12, 2) := by decide +kernel
theorem dX9_readBaker_34 : decode cX9_readBaker 34 = .ok (.invokevirtual 245, 3) := by decide +kernel
theorem dX9_readBaker_37 : decode cX9_readBaker 37 = .ok (.istore_n 2, 1) := by decide +kernel
theorem dX9_readBaker_38 : decode cX9_readBaker 38 = .ok (.aload_n 0, 1) := by decide +kernel
theorem dX9_readBaker_39 : decode cX9_readBaker 39 = .ok (.iconst 1, 1) := by decide +kernel
theorem dX9_readBaker_40 : decode cX9_readBaker 40 = .ok (.bipush 9, 2) := by decide +kernel
theorem dX9_readBaker_42 : decode cX9_readBaker 42 = .ok (.invokevirtual 245, 3) := by decide +kernel
theorem dX9_readBaker_45 : decode cX9_readBaker 45 = .ok (.istore_n 3, 1) := by decide +kernel
theorem dX9_readBaker_46 : decode cX9_readBaker 46 = .ok (.aload_n 0, 1) := by decide +kernel
theorem dX9_readBaker_47 : decode cX9_readBaker 47 = .ok (.invokevirtual 248, 3) := by decide +kernel
theorem dX9_readBaker_50 : decode cX9_readBaker 50 = .ok (.aload_n 0, 1) := by decide +kernel
theorem dX9_readBaker_51 : decode cX9_readBaker 51 = .ok (.getfield 180, 3) := by decide +kernel
theorem dX9_readBaker_54 : decode cX9_readBaker 54 = .ok (.ifCond .ne 54, 3) := by decide +kernel
theorem dX9_readBaker_57 : decode cX9_readBaker 57 = .ok (.aload_n 0, 1) := by decide +kernel
theorem dX9_readBaker_58 : decode cX9_readBaker 58 = .ok (.getfield 13, 3) := by decide +kernel
theorem dX9_readBaker_61 : decode cX9_readBaker 61 = .ok (.iconst 1, 1) := by decide +kernel
theorem dX9_readBaker_62 : decode cX9_readBaker 62 = .ok (.iaload, 1) := by decide +kernel
theorem dX9_readBaker_63 : decode cX9_readBaker 63 = .ok (.invokestatic 100, 3) := by decide +kernel
theorem dX9_readBaker_66 : decode cX9_readBaker 66 = .ok (.istore 4, 2) := by decide +kernel
theorem dX9_readBaker_68 : decode cX9_readBaker 68 = .ok (.aload_n 0, 1) := by decide +kernel
theorem dX9_readBaker_69 : decode cX9_readBaker 69 = .ok (.getfield 13, 3) := by decide +kernel
theorem dX9_readBaker_72 : decode cX9_readBaker 72 = .ok (.iload 4, 2) := by decide +kernel
theorem dX9_readBaker_74 : decode cX9_readBaker 74 = .ok (.iconst 0, 1) := by decide +kernel
theorem dX9_readBaker_75 : decode cX9_readBaker 75 = .ok (.iadd, 1) := by decide +kernel
theorem dX9_readBaker_76 : decode cX9_readBaker 76 = .ok (.iload_n 1, 1) := by decide +kernel
theorem dX9_readBaker_77 : decode cX9_readBaker 77 = .ok (.iastore, 1) := by decide +kernel
theorem dX9_readBaker_78 : decode cX9_readBaker 78 = .ok (.aload_n 0, 1) := by decide +kernel
theorem dX9_readBaker_79 : decode cX9_readBaker 79 = .ok (.getfield 13, 3) := by decide +kernel
theorem dX9_readBaker_82 : decode cX9_readBaker 82 = .ok (.iload 4, 2) := by decide +kernel
theorem dX9_readBaker_84 : decode cX9_readBaker 84 = .ok (.iconst 1, 1) := by decide +kernel
theorem dX9_readBaker_85 : decode cX9_readBaker 85 = .ok (.iadd, 1) := by decide +kernel
theorem dX9_readBaker_86 : decode cX9_readBaker 86 = .ok (.iload_n 2, 1) := by decide +kernel
theorem dX9_readBaker_87 : decode cX9_readBaker 87 = .ok (.iastore, 1) := by decide +kernel
theorem dX9_readBaker_88 : decode cX9_readBaker 88 = .ok (.aload_n 0, 1) := by decide +kernel
theorem dX9_readBaker_89 : decode cX9_readBaker 89 = .ok (.getfield 13, 3) := by decide +kernel
theorem dX9_readBaker_92 : decode cX9_readBaker 92 = .ok (.iload 4, 2) := by decide +kernel
theorem dX9_readBaker_94 : decode cX9_readBaker 94 = .ok (.iconst 2, 1) := by decide +kernel
theorem dX9_readBaker_95 : decode cX9_readBaker 95 = .ok (.iadd, 1) := by decide +kernel
theorem dX9_readBaker_96 : decode cX9_readBaker 96 = .ok (.iload_n 3, 1) := by decide +kernel
theorem dX9_readBaker_97 : decode cX9_readBaker 97 = .ok (.iastore, 1) := by decide +kernel
theorem dX9_readBaker_98 : decode cX9_readBaker 98 = .ok (.aload_n 0, 1) := by decide +kernel
theorem dX9_readBaker_99 : decode cX9_readBaker 99 = .ok (.getfield 13, 3) := by decide +kernel
theorem dX9_readBaker_102 : decode cX9_readBaker 102 = .ok (.iconst 1, 1) := by decide +kernel
theorem dX9_readBaker_103 : decode cX9_readBaker 103 = .ok (.dup2, 1) := by decide +kernel
theorem dX9_readBaker_104 : decode cX9_readBaker 104 = .ok (.iaload, 1) := by decide +kernel
theorem dX9_readBaker_105 : decode cX9_readBaker 105 = .ok (.iconst 1, 1) := by decide +kernel
theorem dX9_readBaker_106 : decode cX9_readBaker 106 = .ok (.iadd, 1) := by decide +kernel
theorem dX9_readBaker_107 : decode cX9_readBaker 107 = .ok (.iastore, 1) := by decide +kernel
theorem dX9_readBaker_108 : decode cX9_readBaker 108 = .ok (.return_, 1) := by decide +kernel
theorem dX9_readBake_0 : decode cX9_readBake 0 = .ok (.aload_n 0, 1) := by decide +kernel
theorem dX9_readBake_1 : decode cX9_readBake 1 = .ok (.invokevirtual 215, 3) := by decide +kernel
theorem dX9_readBake_4 : decode cX9_readBake 4 = .ok (.aload_n 0, 1) := by decide +kernel
theorem dX9_readBake_5 : decode cX9_readBake 5 = .ok (.aload_n 0, 1) := by decide +kernel
theorem dX9_readBake_6 : decode cX9_readBake 6 = .ok (.getfield 201, 3) := by decide +kernel
theorem dX9_readBake_9 : decode cX9_readBake 9 = .ok (.iconst 3, 1) := by decide +kernel
theorem dX9_readBake_10 : decode cX9_readBake 10 = .ok (.if_icmp .ne 7, 3) := by decide +kernel
theorem dX9_readBake_13 : decode cX9_readBake 13 = .ok (.iconst 1, 1) := by decide +kernel
theorem dX9_readBake_14 : decode cX9_readBake 14 = .ok (.goto 4, 3) := by decide +kernel
theorem dX9_readBake_17 : decode cX9_readBake 17 = .ok (.iconst 0, 1) := by decide +kernel
theorem dX9_readBake_18 : decode cX9_readBake 18 = .ok (.iconst 1, 1) := by decide +kernel
theorem dX9_readBake_19 : decode cX9_readBake 19 = .ok (.invokevirtual 212, 3) := by decide +kernel
theorem dX9_readBake_22 : decode cX9_readBake 22 = .ok (.pop, 1) := by decide +kernel
theorem dX9_readBake_23 : decode cX9_readBake 23 = .ok (.aload_n 0, 1) := by decide +kernel
theorem dX9_readBake_24 : decode cX9_readBake 24 = .ok (.getfield 180, 3) := by decide +kernel
theorem dX9_readBake_27 : decode cX9_readBake 27 = .ok (.ifCond .ne 25, 3) := by decide +kernel
theorem dX9_readBake_30 : decode cX9_readBake 30 = .ok (.aload_n 0, 1) := by decide +kernel
theorem dX9_readBake_31 : decode cX9_readBake 31 = .ok (.getfield 13, 3) := by decide +kernel
theorem dX9_readBake_34 : decode cX9_readBake 34 = .ok (.aload_n 0, 1) := by decide +kernel
theorem dX9_readBake_35 : decode cX9_readBake 35 = .ok (.aload_n 0, 1) := by decide +kernel
theorem dX9_readBake_36 : decode cX9_readBake 36 = .ok (.getfield 192, 3) := by decide +kernel
theorem dX9_readBake_39 : decode cX9_readBake 39 = .ok (.aload_n 0, 1) := by decide +kernel
theorem dX9_readBake_40 : decode cX9_readBake 40 = .ok (.getfield 195, 3) := by decide +kernel
theorem dX9_readBake_43 : decode cX9_readBake 43 = .ok (.invokevirtual 224, 3) := by decide +kernel
theorem dX9_readBake_46 : decode cX9_readBake 46 = .ok (.invokestatic 221, 3) := by decide +kernel
theorem dX9_readBake_49 : decode cX9_readBake 49 = .ok (.goto 4, 3) := by decide +kernel
theorem dX9_readBake_52 : decode cX9_readBake 52 = .ok (.iconst 0, 1) := by decide +kernel
theorem dX9_readBake_53 : decode cX9_readBake 53 = .ok (.istore_n 1, 1) := by decide +kernel
theorem dX9_readBake_54 : decode cX9_readBake 54 = .ok (.aload_n 0, 1) := by decide +kernel
theorem dX9_readBake_55 : decode cX9_readBake 55 = .ok (.aload_n 0, 1) := by decide +kernel
theorem dX9_readBake_56 : decode cX9_readBake 56 = .ok (.getfield 180, 3) := by decide +kernel
theorem dX9_readBake_59 : decode cX9_readBake 59 = .ok (.ifCond .ne 8, 3) := by decide +kernel
theorem dX9_readBake_62 : decode cX9_readBake 62 = .ok (.iload_n 1, 1) := by decide +kernel
theorem dX9_readBake_63 : decode cX9_readBake 63 = .ok (.iconst (-1), 1) := by decide +kernel
theorem dX9_readBake_64 : decode cX9_readBake 64 = .ok (.if_icmp .eq 7, 3) := by decide +kernel
theorem dX9_readBake_67 : decode cX9_readBake 67 = .ok (.iconst 1, 1) := by decide +kernel
theorem dX9_readBake_68 : decode cX9_readBake 68 = .ok (.goto 4, 3) := by decide +kernel
theorem dX9_readBake_71 : decode cX9_readBake 71 = .ok (.iconst 0, 1) := by decide +kernel
theorem dX9_readBake_72 : decode cX9_readBake 72 = .ok (.iconst 4, 1) := by decide +kernel
theorem dX9_readBake_73 : decode cX9_readBake 73 = .ok (.invokevirtual 212, 3) := by decide +kernel
theorem dX9_readBake_76 : decode cX9_readBake 76 = .ok (.pop, 1) := by decide +kernel
theorem dX9_readBake_77 : decode cX9_readBake 77 = .ok (.aload_n 0, 1) := by decide +kernel
theorem dX9_readBake_78 : decode cX9_readBake 78 = .ok (.invokevirtual 215, 3) := by decide +kernel
theorem dX9_readBake_81 : decode cX9_readBake 81 = .ok (.aload_n 0, 1) := by decide +kernel
theorem dX9_readBake_82 : decode cX9_readBake 82 = .ok (.invokevirtual 251, 3) := by decide +kernel
theorem dX9_readBake_85 : decode cX9_readBake 85 = .ok (.istore_n 2, 1) := by decide +kernel
theorem dX9_readBake_86 : decode cX9_readBake 86 = .ok (.aload_n 0, 1) := by decide +kernel
theorem dX9_readBake_87 : decode cX9_readBake 87 = .ok (.invokevirtual 218, 3) := by decide +kernel
theorem dX9_readBake_90 : decode cX9_readBake 90 = .ok (.aload_n 0, 1) := by decide +kernel
theorem dX9_readBake_91 : decode cX9_readBake 91 = .ok (.aload_n 0, 1) := by decide +kernel
theorem dX9_readBake_92 : decode cX9_readBake 92 = .ok (.getfield 180, 3) := by decide +kernel
theorem dX9_readBake_95 : decode cX9_readBake 95 = .ok (.ifCond .ne 14, 3) := by decide +kernel
theorem dX9_readBake_98 : decode cX9_readBake 98 = .ok (.aload_n 0, 1) := by decide +kernel
theorem dX9_readBake_99 : decode cX9_readBake 99 = .ok (.getfield 13, 3) := by decide +kernel
theorem dX9_readBake_102 : decode cX9_readBake 102 = .ok (.iload_n 1, 1) := by decide +kernel
theorem dX9_readBake_103 : decode cX9_readBake 103 = .ok (.invokestatic 254, 3) := by decide +kernel
theorem dX9_readBake_106 : decode cX9_readBake 106 = .ok (.ifCond .ne 7, 3) := by decide +kernel
theorem dX9_readBake_109 : decode cX9_readBake 109 = .ok (.iconst 1, 1) := by decide +kernel
theorem dX9_readBake_110 : decode cX9_readBake 110 = .ok (.goto 4, 3) := by decide +kernel
theorem dX9_readBake_113 : decode cX9_readBake 113 = .ok (.iconst 0, 1) := by decide +kernel
theorem dX9_readBake_114 : decode cX9_readBake 114 = .ok (.bipush 6, 2) := by decide +kernel
theorem dX9_readBake_116 : decode cX9_readBake 116 = .ok (.invokevirtual 212, 3) := by decide +kernel
theorem dX9_readBake_119 : decode cX9_readBake 119 = .ok (.pop, 1) := by decide +kernel
theorem dX9_readBake_120 : decode cX9_readBake 120 = .ok (.aload_n 0, 1) := by decide +kernel
theorem dX9_readBake_121 : decode cX9_readBake 121 = .ok (.getfield 180, 3) := by decide +kernel
theorem dX9_readBake_124 : decode cX9_readBake 124 = .ok (.ifCond .ne 20, 3) := by decide +kernel
theorem dX9_readBake_127 : decode cX9_readBake 127 = .ok (.aload_n 0, 1) := by decide +kernel
theorem dX9_readBake_128 : decode cX9_readBake 128 = .ok (.getfield 13, 3) := by decide +kernel
theorem dX9_readBake_131 : decode cX9_readBake 131 = .ok (.iload_n 1, 1) := by decide +kernel
theorem dX9_readBake_132 : decode cX9_readBake 132 = .ok (.iload_n 2, 1) := by decide +kernel
theorem dX9_readBake_133 : decode cX9_readBake 133 = .ok (.invokestatic 257, 3) := by decide +kernel
theorem dX9_readBake_136 : decode cX9_readBake 136 = .ok (.ifCond .ge 8, 3) := by decide +kernel
theorem dX9_readBake_139 : decode cX9_readBake 139 = .ok (.aload_n 0, 1) := by decide +kernel
theorem dX9_readBake_140 : decode cX9_readBake 140 = .ok (.iconst 1, 1) := by decide +kernel
theorem dX9_readBake_141 : decode cX9_readBake 141 = .ok (.putfield 180, 3) := by decide +kernel
theorem dX9_readBake_144 : decode cX9_readBake 144 = .ok (.aload_n 0, 1) := by decide +kernel
theorem dX9_readBake_145 : decode cX9_readBake 145 = .ok (.invokevirtual 215, 3) := by decide +kernel
theorem dX9_readBake_148 : decode cX9_readBake 148 = .ok (.return_, 1) := by decide +kernel
theorem dX9_readCustomer_0 : decode cX9_readCustomer 0 = .ok (.aload_n 0, 1) := by decide +kernel
theorem dX9_readCustomer_1 : decode cX9_readCustomer 1 = .ok (.aload_n 0, 1) := by decide +kernel
theorem dX9_readCustomer_2 : decode cX9_readCustomer 2 = .ok (.getfield 13, 3) := by decide +kernel
theorem dX9_readCustomer_5 : decode cX9_readCustomer 5 = .ok (.iconst 2, 1) := by decide +kernel
theorem dX9_readCustomer_6 : decode cX9_readCustomer 6 = .ok (.iaload, 1) := by decide +kernel
theorem dX9_readCustomer_7 : decode cX9_readCustomer 7 = .ok (.bipush 10, 2) := by decide +kernel
theorem dX9_readCustomer_9 : decode cX9_readCustomer 9 = .ok (.if_icmp .ge 7, 3) := by decide +kernel
theorem dX9_readCustomer_12 : decode cX9_readCustomer 12 = .ok (.iconst 1, 1) := by decide +kernel
theorem dX9_readCustomer_13 : decode cX9_readCustomer 13 = .ok (.goto 4, 3) := by decide +kernel
theorem dX9_readCustomer_16 : decode cX9_readCustomer 16 = .ok (.iconst 0, 1) := by decide +kernel
theorem dX9_readCustomer_17 : decode cX9_readCustomer 17 = .ok (.iconst 5, 1) := by decide +kernel
theorem dX9_readCustomer_18 : decode cX9_readCustomer 18 = .ok (.invokevirtual 212, 3) := by decide +kernel
theorem dX9_readCustomer_21 : decode cX9_readCustomer 21 = .ok (.pop, 1) := by decide +kernel
theorem dX9_readCustomer_22 : decode cX9_readCustomer 22 = .ok (.aload_n 0, 1) := by decide +kernel
theorem dX9_readCustomer_23 : decode cX9_readCustomer 23 = .ok (.invokevirtual 215, 3) := by decide +kernel
theorem dX9_readCustomer_26 : decode cX9_readCustomer 26 = .ok (.aload_n 0, 1) := by decide +kernel
theorem dX9_readCustomer_27 : decode cX9_readCustomer 27 = .ok (.invokevirtual 242, 3) := by decide +kernel
theorem dX9_readCustomer_30 : decode cX9_readCustomer 30 = .ok (.istore_n 1, 1) := by decide +kernel
theorem dX9_readCustomer_31 : decode cX9_readCustomer 31 = .ok (.aload_n 0, 1) := by decide +kernel
theorem dX9_readCustomer_32 : decode cX9_readCustomer 32 = .ok (.invokevirtual 251, 3) := by decide +kernel
theorem dX9_readCustomer_35 : decode cX9_readCustomer 35 = .ok (.istore_n 2, 1) := by decide +kernel
theorem dX9_readCustomer_36 : decode cX9_readCustomer 36 = .ok (.aload_n 0, 1) := by decide +kernel
theorem dX9_readCustomer_37 : decode cX9_readCustomer 37 = .ok (.iconst 1, 1) := by decide +kernel
theorem dX9_readCustomer_38 : decode cX9_readCustomer 38 = .ok (.bipush 9, 2) := by decide +kernel
theorem dX9_readCustomer_40 : decode cX9_readCustomer 40 = .ok (.invokevirtual 245, 3) := by decide +kernel
theorem dX9_readCustomer_43 : decode cX9_readCustomer 43 = .ok (.istore_n 3, 1) := by decide +kernel
theorem dX9_readCustomer_44 : decode cX9_readCustomer 44 = .ok (.aload_n 0, 1) := by decide +kernel
theorem dX9_readCustomer_45 : decode cX9_readCustomer 45 = .ok (.iconst 1, 1) := by decide +kernel
theorem dX9_readCustomer_46 : decode cX9_readCustomer 46 = .ok (.bipush 99, 2) := by decide +kernel
theorem dX9_readCustomer_48 : decode cX9_readCustomer 48 = .ok (.invokevirtual 245, 3) := by decide +kernel
theorem dX9_readCustomer_51 : decode cX9_readCustomer 51 = .ok (.istore 4, 2) := by decide +kernel
theorem dX9_readCustomer_53 : decode cX9_readCustomer 53 = .ok (.aload_n 0, 1) := by decide +kernel
theorem dX9_readCustomer_54 : decode cX9_readCustomer 54 = .ok (.iconst 0, 1) := by decide +kernel
theorem dX9_readCustomer_55 : decode cX9_readCustomer 55 = .ok (.sipush 999, 3) := by decide +kernel
theorem dX9_readCustomer_58 : decode cX9_readCustomer 58 = .ok (.invokevirtual 245, 3) := by decide +kernel
theorem dX9_readCustomer_61 : decode cX9_readCustomer 61 = .ok (.istore 5, 2) := by decide +kernel
theorem dX9_readCustomer_63 : decode cX9_readCustomer 63 = .ok (.aload_n 0, 1) := by decide +kernel
theorem dX9_readCustomer_64 : decode cX9_readCustomer 64 = .ok (.iconst 1, 1) := by decide +kernel
theorem dX9_readCustomer_65 : decode cX9_readCustomer 65 = .ok (.bipush 99, 2) := by decide +kernel
theorem dX9_readCustomer_67 : decode cX9_readCustomer 67 = .ok (.invokevirtual 245, 3) := by decide +kernel
theorem dX9_readCustomer_70 : decode cX9_readCustomer 70 = .ok (.istore 6, 2) := by decide +kernel
theorem dX9_readCustomer_72 : decode cX9_readCustomer 72 = .ok (.aload_n 0, 1) := by decide +kernel
theorem dX9_readCustomer_73 : decode cX9_readCustomer 73 = .ok (.invokevirtual 248, 3) := by decide +kernel
theorem dX9_readCustomer_76 : decode cX9_readCustomer 76 = .ok (.aload_n 0, 1) := by decide +kernel
theorem dX9_readCustomer_77 : decode cX9_readCustomer 77 = .ok (.getfield 180, 3) := by decide +kernel
theorem dX9_readCustomer_80 : decode cX9_readCustomer 80 = .ok (.ifCond .ne 27, 3) := by decide +kernel
theorem dX9_readCustomer_83 : decode cX9_readCustomer 83 = .ok (.aload_n 0, 1) := by decide +kernel
theorem dX9_readCustomer_84 : decode cX9_readCustomer 84 = .ok (.getfield 13, 3) := by decide +kernel
theorem dX9_readCustomer_87 : decode cX9_readCustomer 87 = .ok (.iload_n 1, 1) := by decide +kernel
theorem dX9_readCustomer_88 : decode cX9_readCustomer 88 = .ok (.iload_n 2, 1) := by decide +kernel
theorem dX9_readCustomer_89 : decode cX9_readCustomer 89 = .ok (.iload_n 3, 1) := by decide +kernel
theorem dX9_readCustomer_90 : decode cX9_readCustomer 90 = .ok (.iload 4, 2) := by decide +kernel
theorem dX9_readCustomer_92 : decode cX9_readCustomer 92 = .ok (.iload 5, 2) := by decide +kernel
theorem dX9_readCustomer_94 : decode cX9_readCustomer 94 = .ok (.iload 6, 2) := by decide +kernel
theorem dX9_readCustomer_96 : decode cX9_readCustomer 96 = .ok (.invokestatic 260, 3) := by decide +kernel
theorem dX9_readCustomer_99 : decode cX9_readCustomer 99 = .ok (.ifCond .ge 8, 3) := by decide +kernel
theorem dX9_readCustomer_102 : decode cX9_readCustomer 102 = .ok (.aload_n 0, 1) := by decide +kernel
theorem dX9_readCustomer_103 : decode cX9_readCustomer 103 = .ok (.iconst 1, 1) := by decide +kernel
theorem dX9_readCustomer_104 : decode cX9_readCustomer 104 = .ok (.putfield 180, 3) := by decide +kernel
theorem dX9_readCustomer_107 : decode cX9_readCustomer 107 = .ok (.return_, 1) := by decide +kernel
theorem dX9_readAuction_0 : decode cX9_readAuction 0 = .ok (.aload_n 0, 1) := by decide +kernel
theorem dX9_readAuction_1 : decode cX9_readAuction 1 = .ok (.invokevirtual 215, 3) := by decide +kernel
theorem dX9_readAuction_4 : decode cX9_readAuction 4 = .ok (.aload_n 0, 1) := by decide +kernel
theorem dX9_readAuction_5 : decode cX9_readAuction 5 = .ok (.invokevirtual 251, 3) := by decide +kernel
theorem dX9_readAuction_8 : decode cX9_readAuction 8 = .ok (.istore_n 1, 1) := by decide +kernel
theorem dX9_readAuction_9 : decode cX9_readAuction 9 = .ok (.aload_n 0, 1) := by decide +kernel
theorem dX9_readAuction_10 : decode cX9_readAuction 10 = .ok (.invokevirtual 248, 3) := by decide +kernel
theorem dX9_readAuction_13 : decode cX9_readAuction 13 = .ok (.aload_n 0, 1) := by decide +kernel
theorem dX9_readAuction_14 : decode cX9_readAuction 14 = .ok (.getfield 180, 3) := by decide +kernel
theorem dX9_readAuction_17 : decode cX9_readAuction 17 = .ok (.ifCond .ne 20, 3) := by decide +kernel
theorem dX9_readAuction_20 : decode cX9_readAuction 20 = .ok (.aload_n 0, 1) := by decide +kernel
theorem dX9_readAuction_21 : decode cX9_readAuction 21 = .ok (.aload_n 0, 1) := by decide +kernel
theorem dX9_readAuction_22 : decode cX9_readAuction 22 = .ok (.getfield 13, 3) := by decide +kernel
theorem dX9_readAuction_25 : decode cX9_readAuction 25 = .ok (.iload_n 1, 1) := by decide +kernel
theorem dX9_readAuction_26 : decode cX9_readAuction 26 = .ok (.invokevirtual 264, 3) := by decide +kernel
theorem dX9_readAuction_29 : decode cX9_readAuction 29 = .ok (.ifCond .ge 8, 3) := by decide +kernel
theorem dX9_readAuction_32 : decode cX9_readAuction 32 = .ok (.aload_n 0, 1) := by decide +kernel
theorem dX9_readAuction_33 : decode cX9_readAuction 33 = .ok (.iconst 1, 1) := by decide +kernel
theorem dX9_readAuction_34 : decode cX9_readAuction 34 = .ok (.putfield 180, 3) := by decide +kernel
theorem dX9_readAuction_37 : decode cX9_readAuction 37 = .ok (.return_, 1) := by decide +kernel
theorem dX9_readSparrows_0 : decode cX9_readSparrows 0 = .ok (.aload_n 0, 1) := by decide +kernel
theorem dX9_readSparrows_1 : decode cX9_readSparrows 1 = .ok (.invokevirtual 215, 3) := by decide +kernel
theorem dX9_readSparrows_4 : decode cX9_readSparrows 4 = .ok (.aload_n 0, 1) := by decide +kernel
theorem dX9_readSparrows_5 : decode cX9_readSparrows 5 = .ok (.iconst 0, 1) := by decide +kernel
theorem dX9_readSparrows_6 : decode cX9_readSparrows 6 = .ok (.bipush 9, 2) := by decide +kernel
theorem dX9_readSparrows_8 : decode cX9_readSparrows 8 = .ok (.invokevirtual 245, 3) := by decide +kernel
theorem dX9_readSparrows_11 : decode cX9_readSparrows 11 = .ok (.istore_n 1, 1) := by decide +kernel
theorem dX9_readSparrows_12 : decode cX9_readSparrows 12 = .ok (.aload_n 0, 1) := by decide +kernel
theorem dX9_readSparrows_13 : decode cX9_readSparrows 13 = .ok (.iconst 0, 1) := by decide +kernel
theorem dX9_readSparrows_14 : decode cX9_readSparrows 14 = .ok (.sipush 999, 3) := by decide +kernel
theorem dX9_readSparrows_17 : decode cX9_readSparrows 17 = .ok (.invokevirtual 245, 3) := by decide +kernel
theorem dX9_readSparrows_20 : decode cX9_readSparrows 20 = .ok (.istore_n 2, 1) := by decide +kernel
theorem dX9_readSparrows_21 : decode cX9_readSparrows 21 = .ok (.aload_n 0, 1) := by decide +kernel
theorem dX9_readSparrows_22 : decode cX9_readSparrows 22 = .ok (.invokevirtual 248, 3) := by decide +kernel
theorem dX9_readSparrows_25 : decode cX9_readSparrows 25 = .ok (.aload_n 0, 1) := by decide +kernel
theorem dX9_readSparrows_26 : decode cX9_readSparrows 26 = .ok (.getfield 180, 3) := by decide +kernel
theorem dX9_readSparrows_29 : decode cX9_readSparrows 29 = .ok (.ifCond .ne 17, 3) := by decide +kernel
theorem dX9_readSparrows_32 : decode cX9_readSparrows 32 = .ok (.aload_n 0, 1) := by decide +kernel
theorem dX9_readSparrows_33 : decode cX9_readSparrows 33 = .ok (.getfield 13, 3) := by decide +kernel
theorem dX9_readSparrows_36 : decode cX9_readSparrows 36 = .ok (.iconst 5, 1) := by decide +kernel
theorem dX9_readSparrows_37 : decode cX9_readSparrows 37 = .ok (.iload_n 1, 1) := by decide +kernel
theorem dX9_readSparrows_38 : decode cX9_readSparrows 38 = .ok (.iastore, 1) := by decide +kernel
theorem dX9_readSparrows_39 : decode cX9_readSparrows 39 = .ok (.aload_n 0, 1) := by decide +kernel
theorem dX9_readSparrows_40 : decode cX9_readSparrows 40 = .ok (.getfield 13, 3) := by decide +kernel
theorem dX9_readSparrows_43 : decode cX9_readSparrows 43 = .ok (.iconst 4, 1) := by decide +kernel
theorem dX9_readSparrows_44 : decode cX9_readSparrows 44 = .ok (.iload_n 2, 1) := by decide +kernel
theorem dX9_readSparrows_45 : decode cX9_readSparrows 45 = .ok (.iastore, 1) := by decide +kernel
theorem dX9_readSparrows_46 : decode cX9_readSparrows 46 = .ok (.return_, 1) := by decide +kernel
theorem dX9_readHours_0 : decode cX9_readHours 0 = .ok (.aload_n 0, 1) := by decide +kernel
theorem dX9_readHours_1 : decode cX9_readHours 1 = .ok (.invokevirtual 215, 3) := by decide +kernel
theorem dX9_readHours_4 : decode cX9_readHours 4 = .ok (.aload_n 0, 1) := by decide +kernel
theorem dX9_readHours_5 : decode cX9_readHours 5 = .ok (.iconst 0, 1) := by decide +kernel
theorem dX9_readHours_6 : decode cX9_readHours 6 = .ok (.bipush 60, 2) := by decide +kernel
theorem dX9_readHours_8 : decode cX9_readHours 8 = .ok (.invokevirtual 245, 3) := by decide +kernel
theorem dX9_readHours_11 : decode cX9_readHours 11 = .ok (.istore_n 1, 1) := by decide +kernel
theorem dX9_readHours_12 : decode cX9_readHours 12 = .ok (.aload_n 0, 1) := by decide +kernel
theorem dX9_readHours_13 : decode cX9_readHours 13 = .ok (.invokevirtual 248, 3) := by decide +kernel
theorem dX9_readHours_16 : decode cX9_readHours 16 = .ok (.aload_n 0, 1) := by decide +kernel
theorem dX9_readHours_17 : decode cX9_readHours 17 = .ok (.aload_n 0, 1) := by decide +kernel
theorem dX9_readHours_18 : decode cX9_readHours 18 = .ok (.getfield 13, 3) := by decide +kernel
theorem dX9_readHours_21 : decode cX9_readHours 21 = .ok (.aload_n 0, 1) := by decide +kernel
theorem dX9_readHours_22 : decode cX9_readHours 22 = .ok (.getfield 180, 3) := by decide +kernel
theorem dX9_readHours_25 : decode cX9_readHours 25 = .ok (.ifCond .ne 7, 3) := by decide +kernel
theorem dX9_readHours_28 : decode cX9_readHours 28 = .ok (.iload_n 1, 1) := by decide +kernel
theorem dX9_readHours_29 : decode cX9_readHours 29 = .ok (.goto 4, 3) := by decide +kernel
theorem dX9_readHours_32 : decode cX9_readHours 32 = .ok (.iconst 0, 1) := by decide +kernel
theorem dX9_readHours_33 : decode cX9_readHours 33 = .ok (.invokevirtual 267, 3) := by decide +kernel
theorem dX9_readHours_36 : decode cX9_readHours 36 = .ok (.return_, 1) := by decide +kernel
theorem dX9_readStatement_0 : decode cX9_readStatement 0 = .ok (.aload_n 0, 1) := by decide +kernel
theorem dX9_readStatement_1 : decode cX9_readStatement 1 = .ok (.ldc_w 270, 3) := by decide +kernel
theorem dX9_readStatement_4 : decode cX9_readStatement 4 = .ok (.invokevirtual 234, 3) := by decide +kernel
theorem dX9_readStatement_7 : decode cX9_readStatement 7 = .ok (.ifCond .eq 10, 3) := by decide +kernel
theorem dX9_readStatement_10 : decode cX9_readStatement 10 = .ok (.aload_n 0, 1) := by decide +kernel
theorem dX9_readStatement_11 : decode cX9_readStatement 11 = .ok (.invokevirtual 272, 3) := by decide +kernel
theorem dX9_readStatement_14 : decode cX9_readStatement 14 = .ok (.goto 95, 3) := by decide +kernel
theorem dX9_readStatement_17 : decode cX9_readStatement 17 = .ok (.aload_n 0, 1) := by decide +kernel
theorem dX9_readStatement_18 : decode cX9_readStatement 18 = .ok (.ldc_w 275, 3) := by decide +kernel
theorem dX9_readStatement_21 : decode cX9_readStatement 21 = .ok (.invokevirtual 234, 3) := by decide +kernel
theorem dX9_readStatement_24 : decode cX9_readStatement 24 = .ok (.ifCond .eq 10, 3) := by decide +kernel
theorem dX9_readStatement_27 : decode cX9_readStatement 27 = .ok (.aload_n 0, 1) := by decide +kernel
theorem dX9_readStatement_28 : decode cX9_readStatement 28 = .ok (.invokevirtual 277, 3) := by decide +kernel
theorem dX9_readStatement_31 : decode cX9_readStatement 31 = .ok (.goto 78, 3) := by decide +kernel
theorem dX9_readStatement_34 : decode cX9_readStatement 34 = .ok (.aload_n 0, 1) := by decide +kernel
theorem dX9_readStatement_35 : decode cX9_readStatement 35 = .ok (.ldc_w 280, 3) := by decide +kernel
theorem dX9_readStatement_38 : decode cX9_readStatement 38 = .ok (.invokevirtual 234, 3) := by decide +kernel
theorem dX9_readStatement_41 : decode cX9_readStatement 41 = .ok (.ifCond .eq 10, 3) := by decide +kernel
theorem dX9_readStatement_44 : decode cX9_readStatement 44 = .ok (.aload_n 0, 1) := by decide +kernel
theorem dX9_readStatement_45 : decode cX9_readStatement 45 = .ok (.invokevirtual 282, 3) := by decide +kernel
theorem dX9_readStatement_48 : decode cX9_readStatement 48 = .ok (.goto 61, 3) := by decide +kernel
theorem dX9_readStatement_51 : decode cX9_readStatement 51 = .ok (.aload_n 0, 1) := by decide +kernel
theorem dX9_readStatement_52 : decode cX9_readStatement 52 = .ok (.ldc_w 285, 3) := by decide +kernel
theorem dX9_readStatement_55 : decode cX9_readStatement 55 = .ok (.invokevirtual 234, 3) := by decide +kernel
theorem dX9_readStatement_58 : decode cX9_readStatement 58 = .ok (.ifCond .eq 10, 3) := by decide +kernel
theorem dX9_readStatement_61 : decode cX9_readStatement 61 = .ok (.aload_n 0, 1) := by decide +kernel
theorem dX9_readStatement_62 : decode cX9_readStatement 62 = .ok (.invokevirtual 287, 3) := by decide +kernel
theorem dX9_readStatement_65 : decode cX9_readStatement 65 = .ok (.goto 44, 3) := by decide +kernel
theorem dX9_readStatement_68 : decode cX9_readStatement 68 = .ok (.aload_n 0, 1) := by decide +kernel
theorem dX9_readStatement_69 : decode cX9_readStatement 69 = .ok (.ldc_w 290, 3) := by decide +kernel
theorem dX9_readStatement_72 : decode cX9_readStatement 72 = .ok (.invokevirtual 234, 3) := by decide +kernel
theorem dX9_readStatement_75 : decode cX9_readStatement 75 = .ok (.ifCond .eq 10, 3) := by decide +kernel
theorem dX9_readStatement_78 : decode cX9_readStatement 78 = .ok (.aload_n 0, 1) := by decide +kernel
theorem dX9_readStatement_79 : decode cX9_readStatement 79 = .ok (.invokevirtual 292, 3) := by decide +kernel
theorem dX9_readStatement_82 : decode cX9_readStatement 82 = .ok (.goto 27, 3) := by decide +kernel
theorem dX9_readStatement_85 : decode cX9_readStatement 85 = .ok (.aload_n 0, 1) := by decide +kernel
theorem dX9_readStatement_86 : decode cX9_readStatement 86 = .ok (.ldc_w 295, 3) := by decide +kernel
theorem dX9_readStatement_89 : decode cX9_readStatement 89 = .ok (.invokevirtual 234, 3) := by decide +kernel
theorem dX9_readStatement_92 : decode cX9_readStatement 92 = .ok (.ifCond .eq 10, 3) := by decide +kernel
theorem dX9_readStatement_95 : decode cX9_readStatement 95 = .ok (.aload_n 0, 1) := by decide +kernel
theorem dX9_readStatement_96 : decode cX9_readStatement 96 = .ok (.invokevirtual 297, 3) := by decide +kernel
theorem dX9_readStatement_99 : decode cX9_readStatement 99 = .ok (.goto 10, 3) := by decide +kernel
theorem dX9_readStatement_102 : decode cX9_readStatement 102 = .ok (.aload_n 0, 1) := by decide +kernel
theorem dX9_readStatement_103 : decode cX9_readStatement 103 = .ok (.iconst 0, 1) := by decide +kernel
theorem dX9_readStatement_104 : decode cX9_readStatement 104 = .ok (.iconst 1, 1) := by decide +kernel
theorem dX9_readStatement_105 : decode cX9_readStatement 105 = .ok (.invokevirtual 212, 3) := by decide +kernel
theorem dX9_readStatement_108 : decode cX9_readStatement 108 = .ok (.pop, 1) := by decide +kernel
theorem dX9_readStatement_109 : decode cX9_readStatement 109 = .ok (.return_, 1) := by decide +kernel
theorem dX9_read_0 : decode cX9_read 0 = .ok (.aload_n 0, 1) := by decide +kernel
theorem dX9_read_1 : decode cX9_read 1 = .ok (.iconst 0, 1) := by decide +kernel
theorem dX9_read_2 : decode cX9_read 2 = .ok (.putfield 180, 3) := by decide +kernel
theorem dX9_read_5 : decode cX9_read 5 = .ok (.aload_n 0, 1) := by decide +kernel
theorem dX9_read_6 : decode cX9_read 6 = .ok (.iconst (-1), 1) := by decide +kernel
theorem dX9_read_7 : decode cX9_read 7 = .ok (.putfield 41, 3) := by decide +kernel
theorem dX9_read_10 : decode cX9_read 10 = .ok (.aload_n 0, 1) := by decide +kernel
theorem dX9_read_11 : decode cX9_read 11 = .ok (.iconst 0, 1) := by decide +kernel
theorem dX9_read_12 : decode cX9_read 12 = .ok (.putfield 186, 3) := by decide +kernel
theorem dX9_read_15 : decode cX9_read 15 = .ok (.iconst 0, 1) := by decide +kernel
theorem dX9_read_16 : decode cX9_read 16 = .ok (.istore_n 1, 1) := by decide +kernel
theorem dX9_read_17 : decode cX9_read 17 = .ok (.iload_n 1, 1) := by decide +kernel
theorem dX9_read_18 : decode cX9_read 18 = .ok (.sipush 380, 3) := by decide +kernel
theorem dX9_read_21 : decode cX9_read 21 = .ok (.if_icmp .ge 16, 3) := by decide +kernel
theorem dX9_read_24 : decode cX9_read 24 = .ok (.aload_n 0, 1) := by decide +kernel
theorem dX9_read_25 : decode cX9_read 25 = .ok (.getfield 13, 3) := by decide +kernel
theorem dX9_read_28 : decode cX9_read 28 = .ok (.iload_n 1, 1) := by decide +kernel
theorem dX9_read_29 : decode cX9_read 29 = .ok (.iconst 0, 1) := by decide +kernel
theorem dX9_read_30 : decode cX9_read 30 = .ok (.iastore, 1) := by decide +kernel
theorem dX9_read_31 : decode cX9_read 31 = .ok (.iinc 1 1, 3) := by decide +kernel
theorem dX9_read_34 : decode cX9_read 34 = .ok (.goto (-17), 3) := by decide +kernel
theorem dX9_read_37 : decode cX9_read 37 = .ok (.aload_n 0, 1) := by decide +kernel
theorem dX9_read_38 : decode cX9_read 38 = .ok (.invokevirtual 209, 3) := by decide +kernel
theorem dX9_read_41 : decode cX9_read 41 = .ok (.aload_n 0, 1) := by decide +kernel
theorem dX9_read_42 : decode cX9_read 42 = .ok (.aload_n 0, 1) := by decide +kernel
theorem dX9_read_43 : decode cX9_read 43 = .ok (.ldc_w 300, 3) := by decide +kernel
theorem dX9_read_46 : decode cX9_read 46 = .ok (.invokevirtual 234, 3) := by decide +kernel
theorem dX9_read_49 : decode cX9_read 49 = .ok (.iconst 1, 1) := by decide +kernel
theorem dX9_read_50 : decode cX9_read 50 = .ok (.invokevirtual 212, 3) := by decide +kernel
theorem dX9_read_53 : decode cX9_read 53 = .ok (.pop, 1) := by decide +kernel
theorem dX9_read_54 : decode cX9_read 54 = .ok (.aload_n 0, 1) := by decide +kernel
theorem dX9_read_55 : decode cX9_read 55 = .ok (.invokevirtual 215, 3) := by decide +kernel
theorem dX9_read_58 : decode cX9_read 58 = .ok (.iconst 0, 1) := by decide +kernel
theorem dX9_read_59 : decode cX9_read 59 = .ok (.istore_n 1, 1) := by decide +kernel
theorem dX9_read_60 : decode cX9_read 60 = .ok (.iload_n 1, 1) := by decide +kernel
theorem dX9_read_61 : decode cX9_read 61 = .ok (.iconst 3, 1) := by decide +kernel
theorem dX9_read_62 : decode cX9_read 62 = .ok (.if_icmp .ge 25, 3) := by decide +kernel
theorem dX9_read_65 : decode cX9_read 65 = .ok (.aload_n 0, 1) := by decide +kernel
theorem dX9_read_66 : decode cX9_read 66 = .ok (.getfield 13, 3) := by decide +kernel
theorem dX9_read_69 : decode cX9_read 69 = .ok (.bipush 13, 2) := by decide +kernel
theorem dX9_read_71 : decode cX9_read 71 = .ok (.iload_n 1, 1) := by decide +kernel
theorem dX9_read_72 : decode cX9_read 72 = .ok (.iadd, 1) := by decide +kernel
theorem dX9_read_73 : decode cX9_read 73 = .ok (.aload_n 0, 1) := by decide +kernel
theorem dX9_read_74 : decode cX9_read 74 = .ok (.iconst 1, 1) := by decide +kernel
theorem dX9_read_75 : decode cX9_read 75 = .ok (.bipush 99, 2) := by decide +kernel
theorem dX9_read_77 : decode cX9_read 77 = .ok (.invokevirtual 245, 3) := by decide +kernel
theorem dX9_read_80 : decode cX9_read 80 = .ok (.iastore, 1) := by decide +kernel
theorem dX9_read_81 : decode cX9_read 81 = .ok (.iinc 1 1, 3) := by decide +kernel
theorem dX9_read_84 : decode cX9_read 84 = .ok (.goto (-24), 3) := by decide +kernel
theorem dX9_read_87 : decode cX9_read 87 = .ok (.aload_n 0, 1) := by decide +kernel
theorem dX9_read_88 : decode cX9_read 88 = .ok (.invokevirtual 248, 3) := by decide +kernel
theorem dX9_read_91 : decode cX9_read 91 = .ok (.aload_n 0, 1) := by decide +kernel
theorem dX9_read_92 : decode cX9_read 92 = .ok (.getfield 180, 3) := by decide +kernel
theorem dX9_read_95 : decode cX9_read 95 = .ok (.ifCond .ne 17, 3) := by decide +kernel
theorem dX9_read_98 : decode cX9_read 98 = .ok (.aload_n 0, 1) := by decide +kernel
theorem dX9_read_99 : decode cX9_read 99 = .ok (.getfield 201, 3) := by decide +kernel
theorem dX9_read_102 : decode cX9_read 102 = .ok (.ifCond .eq 10, 3) := by decide +kernel
theorem dX9_read_105 : decode cX9_read 105 = .ok (.aload_n 0, 1) := by decide +kernel
theorem dX9_read_106 : decode cX9_read 106 = .ok (.invokevirtual 302, 3) := by decide +kernel
theorem dX9_read_109 : decode cX9_read 109 = .ok (.goto (-18), 3) := by decide +kernel
theorem dX9_read_112 : decode cX9_read 112 = .ok (.return_, 1) := by decide +kernel
theorem dX9_load_0 : decode cX9_load 0 = .ok (.aload_n 0, 1) := by decide +kernel
theorem dX9_load_1 : decode cX9_load 1 = .ok (.iconst 0, 1) := by decide +kernel
theorem dX9_load_2 : decode cX9_load 2 = .ok (.putfield 75, 3) := by decide +kernel
theorem dX9_load_5 : decode cX9_load 5 = .ok (.aload_n 0, 1) := by decide +kernel
theorem dX9_load_6 : decode cX9_load 6 = .ok (.invokevirtual 55, 3) := by decide +kernel
theorem dX9_load_9 : decode cX9_load 9 = .ok (.aload_n 0, 1) := by decide +kernel
theorem dX9_load_10 : decode cX9_load 10 = .ok (.iconst 0, 1) := by decide +kernel
theorem dX9_load_11 : decode cX9_load 11 = .ok (.putfield 58, 3) := by decide +kernel
theorem dX9_load_14 : decode cX9_load 14 = .ok (.aload_n 0, 1) := by decide +kernel
theorem dX9_load_15 : decode cX9_load 15 = .ok (.aload_n 0, 1) := by decide +kernel
theorem dX9_load_16 : decode cX9_load 16 = .ok (.getfield 180, 3) := by decide +kernel
theorem dX9_load_19 : decode cX9_load 19 = .ok (.ifCond .eq 7, 3) := by decide +kernel
theorem dX9_load_22 : decode cX9_load 22 = .ok (.iconst 1, 1) := by decide +kernel
theorem dX9_load_23 : decode cX9_load 23 = .ok (.goto 4, 3) := by decide +kernel
theorem dX9_load_26 : decode cX9_load 26 = .ok (.iconst 0, 1) := by decide +kernel
theorem dX9_load_27 : decode cX9_load 27 = .ok (.iconst 1, 1) := by decide +kernel
theorem dX9_load_28 : decode cX9_load 28 = .ok (.invokevirtual 168, 3) := by decide +kernel
theorem dX9_load_31 : decode cX9_load 31 = .ok (.ifCond .eq 5, 3) := by decide +kernel
theorem dX9_load_34 : decode cX9_load 34 = .ok (.iconst 0, 1) := by decide +kernel
theorem dX9_load_35 : decode cX9_load 35 = .ok (.ireturn, 1) := by decide +kernel
theorem dX9_load_36 : decode cX9_load 36 = .ok (.aload_n 0, 1) := by decide +kernel
theorem dX9_load_37 : decode cX9_load 37 = .ok (.invokevirtual 305, 3) := by decide +kernel
theorem dX9_load_40 : decode cX9_load 40 = .ok (.aload_n 0, 1) := by decide +kernel
theorem dX9_load_41 : decode cX9_load 41 = .ok (.getfield 13, 3) := by decide +kernel
theorem dX9_load_44 : decode cX9_load 44 = .ok (.iconst 0, 1) := by decide +kernel
theorem dX9_load_45 : decode cX9_load 45 = .ok (.aload_n 0, 1) := by decide +kernel
theorem dX9_load_46 : decode cX9_load 46 = .ok (.getfield 7, 3) := by decide +kernel
theorem dX9_load_49 : decode cX9_load 49 = .ok (.iconst 0, 1) := by decide +kernel
theorem dX9_load_50 : decode cX9_load 50 = .ok (.invokestatic 61, 3) := by decide +kernel
theorem dX9_load_53 : decode cX9_load 53 = .ok (.aload_n 0, 1) := by decide +kernel
theorem dX9_load_54 : decode cX9_load 54 = .ok (.getfield 7, 3) := by decide +kernel
theorem dX9_load_57 : decode cX9_load 57 = .ok (.iconst 2, 1) := by decide +kernel
theorem dX9_load_58 : decode cX9_load 58 = .ok (.iaload, 1) := by decide +kernel
theorem dX9_load_59 : decode cX9_load 59 = .ok (.ireturn, 1) := by decide +kernel
theorem dX9_remember_0 : decode cX9_remember 0 = .ok (.aload_n 0, 1) := by decide +kernel
theorem dX9_remember_1 : decode cX9_remember 1 = .ok (.getfield 308, 3) := by decide +kernel
theorem dX9_remember_4 : decode cX9_remember 4 = .ok (.bipush 8, 2) := by decide +kernel
theorem dX9_remember_6 : decode cX9_remember 6 = .ok (.if_icmp .ne 26, 3) := by decide +kernel
theorem dX9_remember_9 : decode cX9_remember 9 = .ok (.aload_n 0, 1) := by decide +kernel
theorem dX9_remember_10 : decode cX9_remember 10 = .ok (.aload_n 0, 1) := by decide +kernel
theorem dX9_remember_11 : decode cX9_remember 11 = .ok (.getfield 311, 3) := by decide +kernel
theorem dX9_remember_14 : decode cX9_remember 14 = .ok (.iconst 1, 1) := by decide +kernel
theorem dX9_remember_15 : decode cX9_remember 15 = .ok (.iadd, 1) := by decide +kernel
theorem dX9_remember_16 : decode cX9_remember 16 = .ok (.bipush 8, 2) := by decide +kernel
theorem dX9_remember_18 : decode cX9_remember 18 = .ok (.irem, 1) := by decide +kernel
theorem dX9_remember_19 : decode cX9_remember 19 = .ok (.putfield 311, 3) := by decide +kernel
theorem dX9_remember_22 : decode cX9_remember 22 = .ok (.aload_n 0, 1) := by decide +kernel
theorem dX9_remember_23 : decode cX9_remember 23 = .ok (.dup, 1) := by decide +kernel
theorem dX9_remember_24 : decode cX9_remember 24 = .ok (.getfield 308, 3) := by decide +kernel
theorem dX9_remember_27 : decode cX9_remember 27 = .ok (.iconst 1, 1) := by decide +kernel
theorem dX9_remember_28 : decode cX9_remember 28 = .ok (.isub, 1) := by decide +kernel
theorem dX9_remember_29 : decode cX9_remember 29 = .ok (.putfield 308, 3) := by decide +kernel
theorem dX9_remember_32 : decode cX9_remember 32 = .ok (.aload_n 0, 1) := by decide +kernel
theorem dX9_remember_33 : decode cX9_remember 33 = .ok (.getfield 7, 3) := by decide +kernel
theorem dX9_remember_36 : decode cX9_remember 36 = .ok (.iconst 0, 1) := by decide +kernel
theorem dX9_remember_37 : decode cX9_remember 37 = .ok (.aload_n 0, 1) := by decide +kernel
theorem dX9_remember_38 : decode cX9_remember 38 = .ok (.getfield 19, 3) := by decide +kernel
theorem dX9_remember_41 : decode cX9_remember 41 = .ok (.sipush 380, 3) := by decide +kernel
theorem dX9_remember_44 : decode cX9_remember 44 = .ok (.aload_n 0, 1) := by decide +kernel
theorem dX9_remember_45 : decode cX9_remember 45 = .ok (.getfield 311, 3) := by decide +kernel
theorem dX9_remember_48 : decode cX9_remember 48 = .ok (.aload_n 0, 1) := by decide +kernel
theorem dX9_remember_49 : decode cX9_remember 49 = .ok (.getfield 308, 3) := by decide +kernel
theorem dX9_remember_52 : decode cX9_remember 52 = .ok (.iadd, 1) := by decide +kernel
theorem dX9_remember_53 : decode cX9_remember 53 = .ok (.bipush 8, 2) := by decide +kernel
theorem dX9_remember_55 : decode cX9_remember 55 = .ok (.irem, 1) := by decide +kernel
theorem dX9_remember_56 : decode cX9_remember 56 = .ok (.imul, 1) := by decide +kernel
theorem dX9_remember_57 : decode cX9_remember 57 = .ok (.invokestatic 61, 3) := by decide +kernel
theorem dX9_remember_60 : decode cX9_remember 60 = .ok (.aload_n 0, 1) := by decide +kernel
theorem dX9_remember_61 : decode cX9_remember 61 = .ok (.dup, 1) := by decide +kernel
theorem dX9_remember_62 : decode cX9_remember 62 = .ok (.getfield 308, 3) := by decide +kernel
theorem dX9_remember_65 : decode cX9_remember 65 = .ok (.iconst 1, 1) := by decide +kernel
theorem dX9_remember_66 : decode cX9_remember 66 = .ok (.iadd, 1) := by decide +kernel
theorem dX9_remember_67 : decode cX9_remember 67 = .ok (.putfield 308, 3) := by decide +kernel
theorem dX9_remember_70 : decode cX9_remember 70 = .ok (.return_, 1) := by decide +kernel
theorem dX9_undo_0 : decode cX9_undo 0 = .ok (.aload_n 0, 1) := by decide +kernel
theorem dX9_undo_1 : decode cX9_undo 1 = .ok (.iconst 0, 1) := by decide +kernel
theorem dX9_undo_2 : decode cX9_undo 2 = .ok (.putfield 75, 3) := by decide +kernel
theorem dX9_undo_5 : decode cX9_undo 5 = .ok (.aload_n 0, 1) := by decide +kernel
theorem dX9_undo_6 : decode cX9_undo 6 = .ok (.aload_n 0, 1) := by decide +kernel
theorem dX9_undo_7 : decode cX9_undo 7 = .ok (.getfield 308, 3) := by decide +kernel
theorem dX9_undo_10 : decode cX9_undo 10 = .ok (.ifCond .ne 7, 3) := by decide +kernel
theorem dX9_undo_13 : decode cX9_undo 13 = .ok (.iconst 1, 1) := by decide +kernel
theorem dX9_undo_14 : decode cX9_undo 14 = .ok (.goto 4, 3) := by decide +kernel
theorem dX9_undo_17 : decode cX9_undo 17 = .ok (.iconst 0, 1) := by decide +kernel
theorem dX9_undo_18 : decode cX9_undo 18 = .ok (.iconst 1, 1) := by decide +kernel
theorem dX9_undo_19 : decode cX9_undo 19 = .ok (.invokevirtual 168, 3) := by decide +kernel
theorem dX9_undo_22 : decode cX9_undo 22 = .ok (.ifCond .eq 5, 3) := by decide +kernel
theorem dX9_undo_25 : decode cX9_undo 25 = .ok (.iconst 0, 1) := by decide +kernel
theorem dX9_undo_26 : decode cX9_undo 26 = .ok (.ireturn, 1) := by decide +kernel
theorem dX9_undo_27 : decode cX9_undo 27 = .ok (.aload_n 0, 1) := by decide +kernel
theorem dX9_undo_28 : decode cX9_undo 28 = .ok (.dup, 1) := by decide +kernel
theorem dX9_undo_29 : decode cX9_undo 29 = .ok (.getfield 308, 3) := by decide +kernel
theorem dX9_undo_32 : decode cX9_undo 32 = .ok (.iconst 1, 1) := by decide +kernel
theorem dX9_undo_33 : decode cX9_undo 33 = .ok (.isub, 1) := by decide +kernel
theorem dX9_undo_34 : decode cX9_undo 34 = .ok (.putfield 308, 3) := by decide +kernel
theorem dX9_undo_37 : decode cX9_undo 37 = .ok (.aload_n 0, 1) := by decide +kernel
theorem dX9_undo_38 : decode cX9_undo 38 = .ok (.getfield 19, 3) := by decide +kernel
theorem dX9_undo_41 : decode cX9_undo 41 = .ok (.sipush 380, 3) := by decide +kernel
theorem dX9_undo_44 : decode cX9_undo 44 = .ok (.aload_n 0, 1) := by decide +kernel
theorem dX9_undo_45 : decode cX9_undo 45 = .ok (.getfield 311, 3) := by decide +kernel
theorem dX9_undo_48 : decode cX9_undo 48 = .ok (.aload_n 0, 1) := by decide +kernel
theorem dX9_undo_49 : decode cX9_undo 49 = .ok (.getfield 308, 3) := by decide +kernel
theorem dX9_undo_52 : decode cX9_undo 52 = .ok (.iadd, 1) := by decide +kernel
theorem dX9_undo_53 : decode cX9_undo 53 = .ok (.bipush 8, 2) := by decide +kernel
theorem dX9_undo_55 : decode cX9_undo 55 = .ok (.irem, 1) := by decide +kernel
theorem dX9_undo_56 : decode cX9_undo 56 = .ok (.imul, 1) := by decide +kernel
theorem dX9_undo_57 : decode cX9_undo 57 = .ok (.aload_n 0, 1) := by decide +kernel
theorem dX9_undo_58 : decode cX9_undo 58 = .ok (.getfield 7, 3) := by decide +kernel
theorem dX9_undo_61 : decode cX9_undo 61 = .ok (.iconst 0, 1) := by decide +kernel
theorem dX9_undo_62 : decode cX9_undo 62 = .ok (.invokestatic 61, 3) := by decide +kernel
theorem dX9_undo_65 : decode cX9_undo 65 = .ok (.aload_n 0, 1) := by decide +kernel
theorem dX9_undo_66 : decode cX9_undo 66 = .ok (.getfield 308, 3) := by decide +kernel
theorem dX9_undo_69 : decode cX9_undo 69 = .ok (.ireturn, 1) := by decide +kernel
theorem dX9_undoDepth_0 : decode cX9_undoDepth 0 = .ok (.aload_n 0, 1) := by decide +kernel
theorem dX9_undoDepth_1 : decode cX9_undoDepth 1 = .ok (.iconst 0, 1) := by decide +kernel
theorem dX9_undoDepth_2 : decode cX9_undoDepth 2 = .ok (.putfield 75, 3) := by decide +kernel
theorem dX9_undoDepth_5 : decode cX9_undoDepth 5 = .ok (.aload_n 0, 1) := by decide +kernel
theorem dX9_undoDepth_6 : decode cX9_undoDepth 6 = .ok (.getfield 308, 3) := by decide +kernel
theorem dX9_undoDepth_9 : decode cX9_undoDepth 9 = .ok (.ireturn, 1) := by decide +kernel
theorem dX9_noNumber_0 : decode cX9_noNumber 0 = .ok (.aload_n 0, 1) := by decide +kernel
theorem dX9_noNumber_1 : decode cX9_noNumber 1 = .ok (.iconst 0, 1) := by decide +kernel
theorem dX9_noNumber_2 : decode cX9_noNumber 2 = .ok (.putfield 75, 3) := by decide +kernel
theorem dX9_noNumber_5 : decode cX9_noNumber 5 = .ok (.aload_n 0, 1) := by decide +kernel
theorem dX9_noNumber_6 : decode cX9_noNumber 6 = .ok (.iload_n 1, 1) := by decide +kernel
theorem dX9_noNumber_7 : decode cX9_noNumber 7 = .ok (.iload_n 2, 1) := by decide +kernel
theorem dX9_noNumber_8 : decode cX9_noNumber 8 = .ok (.iload_n 3, 1) := by decide +kernel
theorem dX9_noNumber_9 : decode cX9_noNumber 9 = .ok (.invokestatic 183, 3) := by decide +kernel
theorem dX9_noNumber_12 : decode cX9_noNumber 12 = .ok (.ifCond .ne 7, 3) := by decide +kernel
theorem dX9_noNumber_15 : decode cX9_noNumber 15 = .ok (.iconst 1, 1) := by decide +kernel
theorem dX9_noNumber_16 : decode cX9_noNumber 16 = .ok (.goto 4, 3) := by decide +kernel
theorem dX9_noNumber_19 : decode cX9_noNumber 19 = .ok (.iconst 0, 1) := by decide +kernel
theorem dX9_noNumber_20 : decode cX9_noNumber 20 = .ok (.iconst 1, 1) := by decide +kernel
theorem dX9_noNumber_21 : decode cX9_noNumber 21 = .ok (.invokevirtual 168, 3) := by decide +kernel
theorem dX9_noNumber_24 : decode cX9_noNumber 24 = .ok (.ireturn, 1) := by decide +kernel
theorem dX9_noBaker_0 : decode cX9_noBaker 0 = .ok (.aload_n 0, 1) := by decide +kernel
theorem dX9_noBaker_1 : decode cX9_noBaker 1 = .ok (.iload_n 1, 1) := by decide +kernel
theorem dX9_noBaker_2 : decode cX9_noBaker 2 = .ok (.iconst 0, 1) := by decide +kernel
theorem dX9_noBaker_3 : decode cX9_noBaker 3 = .ok (.aload_n 0, 1) := by decide +kernel
theorem dX9_noBaker_4 : decode cX9_noBaker 4 = .ok (.getfield 7, 3) := by decide +kernel
theorem dX9_noBaker_7 : decode cX9_noBaker 7 = .ok (.iconst 1, 1) := by decide +kernel
theorem dX9_noBaker_8 : decode cX9_noBaker 8 = .ok (.iaload, 1) := by decide +kernel
theorem dX9_noBaker_9 : decode cX9_noBaker 9 = .ok (.iconst 1, 1) := by decide +kernel
theorem dX9_noBaker_10 : decode cX9_noBaker 10 = .ok (.isub, 1) := by decide +kernel
theorem dX9_noBaker_11 : decode cX9_noBaker 11 = .ok (.invokevirtual 176, 3) := by decide +kernel
theorem dX9_noBaker_14 : decode cX9_noBaker 14 = .ok (.ireturn, 1) := by decide +kernel
theorem dX9_noCustomer_0 : decode cX9_noCustomer 0 = .ok (.aload_n 0, 1) := by decide +kernel
theorem dX9_noCustomer_1 : decode cX9_noCustomer 1 = .ok (.iload_n 1, 1) := by decide +kernel
theorem dX9_noCustomer_2 : decode cX9_noCustomer 2 = .ok (.iconst 0, 1) := by decide +kernel
theorem dX9_noCustomer_3 : decode cX9_noCustomer 3 = .ok (.aload_n 0, 1) := by decide +kernel
theorem dX9_noCustomer_4 : decode cX9_noCustomer 4 = .ok (.getfield 7, 3) := by decide +kernel
theorem dX9_noCustomer_7 : decode cX9_noCustomer 7 = .ok (.iconst 2, 1) := by decide +kernel
theorem dX9_noCustomer_8 : decode cX9_noCustomer 8 = .ok (.iaload, 1) := by decide +kernel
theorem dX9_noCustomer_9 : decode cX9_noCustomer 9 = .ok (.iconst 1, 1) := by decide +kernel
theorem dX9_noCustomer_10 : decode cX9_noCustomer 10 = .ok (.isub, 1) := by decide +kernel
theorem dX9_noCustomer_11 : decode cX9_noCustomer 11 = .ok (.invokevirtual 176, 3) := by decide +kernel
theorem dX9_noCustomer_14 : decode cX9_noCustomer 14 = .ok (.ireturn, 1) := by decide +kernel
theorem dX9_noLoaf_0 : decode cX9_noLoaf 0 = .ok (.aload_n 0, 1) := by decide +kernel
theorem dX9_noLoaf_1 : decode cX9_noLoaf 1 = .ok (.iload_n 1, 1) := by decide +kernel
theorem dX9_noLoaf_2 : decode cX9_noLoaf 2 = .ok (.iconst 0, 1) := by decide +kernel
theorem dX9_noLoaf_3 : decode cX9_noLoaf 3 = .ok (.aload_n 0, 1) := by decide +kernel
theorem dX9_noLoaf_4 : decode cX9_noLoaf 4 = .ok (.getfield 7, 3) := by decide +kernel
theorem dX9_noLoaf_7 : decode cX9_noLoaf 7 = .ok (.iconst 3, 1) := by decide +kernel
theorem dX9_noLoaf_8 : decode cX9_noLoaf 8 = .ok (.iaload, 1) := by decide +kernel
theorem dX9_noLoaf_9 : decode cX9_noLoaf 9 = .ok (.iconst 1, 1) := by decide +kernel
theorem dX9_noLoaf_10 : decode cX9_noLoaf 10 = .ok (.isub, 1) := by decide +kernel
theorem dX9_noLoaf_11 : decode cX9_noLoaf 11 = .ok (.invokevirtual 176, 3) := by decide +kernel
theorem dX9_noLoaf_14 : decode cX9_noLoaf 14 = .ok (.ireturn, 1) := by decide +kernel
theorem dX9_noKind_0 : decode cX9_noKind 0 = .ok (.aload_n 0, 1) := by decide +kernel
theorem dX9_noKind_1 : decode cX9_noKind 1 = .ok (.iload_n 1, 1) := by decide +kernel
theorem dX9_noKind_2 : decode cX9_noKind 2 = .ok (.iconst 0, 1) := by decide +kernel
theorem dX9_noKind_3 : decode cX9_noKind 3 = .ok (.iconst 2, 1) := by decide +kernel
theorem dX9_noKind_4 : decode cX9_noKind 4 = .ok (.invokevirtual 176, 3) := by decide +kernel
theorem dX9_noKind_7 : decode cX9_noKind 7 = .ok (.ireturn, 1) := by decide +kernel
theorem dX9_noEvent_0 : decode cX9_noEvent 0 = .ok (.aload_n 0, 1) := by decide +kernel
theorem dX9_noEvent_1 : decode cX9_noEvent 1 = .ok (.iload_n 1, 1) := by decide +kernel
theorem dX9_noEvent_2 : decode cX9_noEvent 2 = .ok (.iconst 0, 1) := by decide +kernel
theorem dX9_noEvent_3 : decode cX9_noEvent 3 = .ok (.aload_n 0, 1) := by decide +kernel
theorem dX9_noEvent_4 : decode cX9_noEvent 4 = .ok (.getfield 7, 3) := by decide +kernel
theorem dX9_noEvent_7 : decode cX9_noEvent 7 = .ok (.bipush 7, 2) := by decide +kernel
theorem dX9_noEvent_9 : decode cX9_noEvent 9 = .ok (.iaload, 1) := by decide +kernel
theorem dX9_noEvent_10 : decode cX9_noEvent 10 = .ok (.iconst 1, 1) := by decide +kernel
theorem dX9_noEvent_11 : decode cX9_noEvent 11 = .ok (.isub, 1) := by decide +kernel
theorem dX9_noEvent_12 : decode cX9_noEvent 12 = .ok (.invokevirtual 176, 3) := by decide +kernel
theorem dX9_noEvent_15 : decode cX9_noEvent 15 = .ok (.ireturn, 1) := by decide +kernel
theorem dX9_out_0 : decode cX9_out 0 = .ok (.aload_n 0, 1) := by decide +kernel
theorem dX9_out_1 : decode cX9_out 1 = .ok (.iload_n 1, 1) := by decide +kernel
theorem dX9_out_2 : decode cX9_out 2 = .ok (.iload_n 2, 1) := by decide +kernel
theorem dX9_out_3 : decode cX9_out 3 = .ok (.iload_n 3, 1) := by decide +kernel
theorem dX9_out_4 : decode cX9_out 4 = .ok (.invokestatic 183, 3) := by decide +kernel
theorem dX9_out_7 : decode cX9_out 7 = .ok (.ifCond .ne 7, 3) := by decide +kernel
theorem dX9_out_10 : decode cX9_out 10 = .ok (.iconst 1, 1) := by decide +kernel
theorem dX9_out_11 : decode cX9_out 11 = .ok (.goto 4, 3) := by decide +kernel
theorem dX9_out_14 : decode cX9_out 14 = .ok (.iconst 0, 1) := by decide +kernel
theorem dX9_out_15 : decode cX9_out 15 = .ok (.iconst 2, 1) := by decide +kernel
theorem dX9_out_16 : decode cX9_out 16 = .ok (.invokevirtual 168, 3) := by decide +kernel
theorem dX9_out_19 : decode cX9_out 19 = .ok (.ireturn, 1) := by decide +kernel
theorem dX9_hour_0 : decode cX9_hour 0 = .ok (.aload_n 0, 1) := by decide +kernel
theorem dX9_hour_1 : decode cX9_hour 1 = .ok (.iconst 0, 1) := by decide +kernel
theorem dX9_hour_2 : decode cX9_hour 2 = .ok (.putfield 75, 3) := by decide +kernel
theorem dX9_hour_5 : decode cX9_hour 5 = .ok (.aload_n 0, 1) := by decide +kernel
theorem dX9_hour_6 : decode cX9_hour 6 = .ok (.getfield 7, 3) := by decide +kernel
theorem dX9_hour_9 : decode cX9_hour 9 = .ok (.iconst 0, 1) := by decide +kernel
theorem dX9_hour_10 : decode cX9_hour 10 = .ok (.iaload, 1) := by decide +kernel
theorem dX9_hour_11 : decode cX9_hour 11 = .ok (.ireturn, 1) := by decide +kernel
theorem dX9_bakerCount_0 : decode cX9_bakerCount 0 = .ok (.aload_n 0, 1) := by decide +kernel
theorem dX9_bakerCount_1 : decode cX9_bakerCount 1 = .ok (.iconst 0, 1) := by decide +kernel
theorem dX9_bakerCount_2 : decode cX9_bakerCount 2 = .ok (.putfield 75, 3) := by decide +kernel
theorem dX9_bakerCount_5 : decode cX9_bakerCount 5 = .ok (.aload_n 0, 1) := by decide +kernel
theorem dX9_bakerCount_6 : decode cX9_bakerCount 6 = .ok (.getfield 7, 3) := by decide +kernel
theorem dX9_bakerCount_9 : decode cX9_bakerCount 9 = .ok (.iconst 1, 1) := by decide +kernel
theorem dX9_bakerCount_10 : decode cX9_bakerCount 10 = .ok (.iaload, 1) := by decide +kernel
theorem dX9_bakerCount_11 : decode cX9_bakerCount 11 = .ok (.ireturn, 1) := by decide +kernel
theorem dX9_customerCount_0 : decode cX9_customerCount 0 = .ok (.aload_n 0, 1) := by decide +kernel
theorem dX9_customerCount_1 : decode cX9_customerCount 1 = .ok (.iconst 0, 1) := by decide +kernel
theorem dX9_customerCount_2 : decode cX9_customerCount 2 = .ok (.putfield 75, 3) := by decide +kernel
theorem dX9_customerCount_5 : decode cX9_customerCount 5 = .ok (.aload_n 0, 1) := by decide +kernel
theorem dX9_customerCount_6 : decode cX9_customerCount 6 = .ok (.getfield 7, 3) := by decide +kernel
theorem dX9_customerCount_9 : decode cX9_customerCount 9 = .ok (.iconst 2, 1) := by decide +kernel
theorem dX9_customerCount_10 : decode cX9_customerCount 10 = .ok (.iaload, 1) := by decide +kernel
theorem dX9_customerCount_11 : decode cX9_customerCount 11 = .ok (.ireturn, 1) := by decide +kernel
theorem dX9_loafCount_0 : decode cX9_loafCount 0 = .ok (.aload_n 0, 1) := by decide +kernel
theorem dX9_loafCount_1 : decode cX9_loafCount 1 = .ok (.iconst 0, 1) := by decide +kernel
theorem dX9_loafCount_2 : decode cX9_loafCount 2 = .ok (.putfield 75, 3) := by decide +kernel
theorem dX9_loafCount_5 : decode cX9_loafCount 5 = .ok (.aload_n 0, 1) := by decide +kernel
theorem dX9_loafCount_6 : decode cX9_loafCount 6 = .ok (.getfield 7, 3) := by decide +kernel
theorem dX9_loafCount_9 : decode cX9_loafCount 9 = .ok (.iconst 3, 1) := by decide +kernel
theorem dX9_loafCount_10 : decode cX9_loafCount 10 = .ok (.iaload, 1) := by decide +kernel
theorem dX9_loafCount_11 : decode cX9_loafCount 11 = .ok (.ireturn, 1) := by decide +kernel
theorem dX9_crumbs_0 : decode cX9_crumbs 0 = .ok (.aload_n 0, 1) := by decide +kernel
theorem dX9_crumbs_1 : decode cX9_crumbs 1 = .ok (.iconst 0, 1) := by decide +kernel
theorem dX9_crumbs_2 : decode cX9_crumbs 2 = .ok (.putfield 75, 3) := by decide +kernel
theorem dX9_crumbs_5 : decode cX9_crumbs 5 = .ok (.aload_n 0, 1) := by decide +kernel
theorem dX9_crumbs_6 : decode cX9_crumbs 6 = .ok (.getfield 7, 3) := by decide +kernel
theorem dX9_crumbs_9 : decode cX9_crumbs 9 = .ok (.iconst 4, 1) := by decide +kernel
theorem dX9_crumbs_10 : decode cX9_crumbs 10 = .ok (.iaload, 1) := by decide +kernel
theorem dX9_crumbs_11 : decode cX9_crumbs 11 = .ok (.ireturn, 1) := by decide +kernel
theorem dX9_sparrows_0 : decode cX9_sparrows 0 = .ok (.aload_n 0, 1) := by decide +kernel
theorem dX9_sparrows_1 : decode cX9_sparrows 1 = .ok (.iconst 0, 1) := by decide +kernel
theorem dX9_sparrows_2 : decode cX9_sparrows 2 = .ok (.putfield 75, 3) := by decide +kernel
theorem dX9_sparrows_5 : decode cX9_sparrows 5 = .ok (.aload_n 0, 1) := by decide +kernel
theorem dX9_sparrows_6 : decode cX9_sparrows 6 = .ok (.getfield 7, 3) := by decide +kernel
theorem dX9_sparrows_9 : decode cX9_sparrows 9 = .ok (.iconst 5, 1) := by decide +kernel
theorem dX9_sparrows_10 : decode cX9_sparrows 10 = .ok (.iaload, 1) := by decide +kernel
theorem dX9_sparrows_11 : decode cX9_sparrows 11 = .ok (.ireturn, 1) := by decide +kernel
theorem dX9_letterOf_0 : decode cX9_letterOf 0 = .ok (.iload_n 0, 1) := by decide +kernel
theorem dX9_letterOf_1 : decode cX9_letterOf 1 = .ok (.istore_n 2, 1) := by decide +kernel
theorem dX9_letterOf_2 : decode cX9_letterOf 2 = .ok (.iconst 3, 1) := by decide +kernel
theorem dX9_letterOf_3 : decode cX9_letterOf 3 = .ok (.istore_n 3, 1) := by decide +kernel
theorem dX9_letterOf_4 : decode cX9_letterOf 4 = .ok (.iload_n 3, 1) := by decide +kernel
theorem dX9_letterOf_5 : decode cX9_letterOf 5 = .ok (.iload_n 1, 1) := by decide +kernel
theorem dX9_letterOf_6 : decode cX9_letterOf 6 = .ok (.if_icmp .le 14, 3) := by decide +kernel
theorem dX9_letterOf_9 : decode cX9_letterOf 9 = .ok (.iload_n 2, 1) := by decide +kernel
theorem dX9_letterOf_10 : decode cX9_letterOf 10 = .ok (.bipush 27, 2) := by decide +kernel
theorem dX9_letterOf_12 : decode cX9_letterOf 12 = .ok (.idiv, 1) := by decide +kernel
theorem dX9_letterOf_13 : decode cX9_letterOf 13 = .ok (.istore_n 2, 1) := by decide +kernel
theorem dX9_letterOf_14 : decode cX9_letterOf 14 = .ok (.iinc 3 (-1), 3) := by decide +kernel
theorem dX9_letterOf_17 : decode cX9_letterOf 17 = .ok (.goto (-13), 3) := by decide +kernel
theorem dX9_letterOf_20 : decode cX9_letterOf 20 = .ok (.iload_n 2, 1) := by decide +kernel
theorem dX9_letterOf_21 : decode cX9_letterOf 21 = .ok (.bipush 27, 2) := by decide +kernel
theorem dX9_letterOf_23 : decode cX9_letterOf 23 = .ok (.irem, 1) := by decide +kernel
theorem dX9_letterOf_24 : decode cX9_letterOf 24 = .ok (.ireturn, 1) := by decide +kernel
theorem dX9_lettersOf_0 : decode cX9_lettersOf 0 = .ok (.iconst 0, 1) := by decide +kernel
theorem dX9_lettersOf_1 : decode cX9_lettersOf 1 = .ok (.istore_n 1, 1) := by decide +kernel
theorem dX9_lettersOf_2 : decode cX9_lettersOf 2 = .ok (.iload_n 1, 1) := by decide +kernel
theorem dX9_lettersOf_3 : decode cX9_lettersOf 3 = .ok (.iconst 4, 1) := by decide +kernel
theorem dX9_lettersOf_4 : decode cX9_lettersOf 4 = .ok (.if_icmp .ge 17, 3) := by decide +kernel
theorem dX9_lettersOf_7 : decode cX9_lettersOf 7 = .ok (.iload_n 0, 1) := by decide +kernel
theorem dX9_lettersOf_8 : decode cX9_lettersOf 8 = .ok (.iload_n 1, 1) := by decide +kernel
theorem dX9_lettersOf_9 : decode cX9_lettersOf 9 = .ok (.invokestatic 314, 3) := by decide +kernel
theorem dX9_lettersOf_12 : decode cX9_lettersOf 12 = .ok (.ifCond .le 9, 3) := by decide +kernel
theorem dX9_lettersOf_15 : decode cX9_lettersOf 15 = .ok (.iinc 1 1, 3) := by decide +kernel
theorem dX9_lettersOf_18 : decode cX9_lettersOf 18 = .ok (.goto (-16), 3) := by decide +kernel
theorem dX9_lettersOf_21 : decode cX9_lettersOf 21 = .ok (.iload_n 1, 1) := by decide +kernel
theorem dX9_lettersOf_22 : decode cX9_lettersOf 22 = .ok (.ireturn, 1) := by decide +kernel
theorem dX9_letter_0 : decode cX9_letter 0 = .ok (.aload_n 0, 1) := by decide +kernel
theorem dX9_letter_1 : decode cX9_letter 1 = .ok (.iload_n 2, 1) := by decide +kernel
theorem dX9_letter_2 : decode cX9_letter 2 = .ok (.iconst 0, 1) := by decide +kernel
theorem dX9_letter_3 : decode cX9_letter 3 = .ok (.iload_n 1, 1) := by decide +kernel
theorem dX9_letter_4 : decode cX9_letter 4 = .ok (.invokestatic 317, 3) := by decide +kernel
theorem dX9_letter_7 : decode cX9_letter 7 = .ok (.iconst 1, 1) := by decide +kernel
theorem dX9_letter_8 : decode cX9_letter 8 = .ok (.isub, 1) := by decide +kernel
theorem dX9_letter_9 : decode cX9_letter 9 = .ok (.invokevirtual 320, 3) := by decide +kernel
theorem dX9_letter_12 : decode cX9_letter 12 = .ok (.ifCond .eq 7, 3) := by decide +kernel
theorem dX9_letter_15 : decode cX9_letter 15 = .ok (.iconst 0, 1) := by decide +kernel
theorem dX9_letter_16 : decode cX9_letter 16 = .ok (.goto 11, 3) := by decide +kernel
theorem dX9_letter_19 : decode cX9_letter 19 = .ok (.bipush 96, 2) := by decide +kernel
theorem dX9_letter_21 : decode cX9_letter 21 = .ok (.iload_n 1, 1) := by decide +kernel
theorem dX9_letter_22 : decode cX9_letter 22 = .ok (.iload_n 2, 1) := by decide +kernel
theorem dX9_letter_23 : decode cX9_letter 23 = .ok (.invokestatic 314, 3) := by decide +kernel
theorem dX9_letter_26 : decode cX9_letter 26 = .ok (.iadd, 1) := by decide +kernel
theorem dX9_letter_27 : decode cX9_letter 27 = .ok (.ireturn, 1) := by decide +kernel
theorem dX9_bakerNameByte_0 : decode cX9_bakerNameByte 0 = .ok (.aload_n 0, 1) := by decide +kernel
theorem dX9_bakerNameByte_1 : decode cX9_bakerNameByte 1 = .ok (.iload_n 1, 1) := by decide +kernel
theorem dX9_bakerNameByte_2 : decode cX9_bakerNameByte 2 = .ok (.invokevirtual 323, 3) := by decide +kernel
theorem dX9_bakerNameByte_5 : decode cX9_bakerNameByte 5 = .ok (.ifCond .eq 7, 3) := by decide +kernel
theorem dX9_bakerNameByte_8 : decode cX9_bakerNameByte 8 = .ok (.iconst 0, 1) := by decide +kernel
theorem dX9_bakerNameByte_9 : decode cX9_bakerNameByte 9 = .ok (.goto 19, 3) := by decide +kernel
theorem dX9_bakerNameByte_12 : decode cX9_bakerNameByte 12 = .ok (.aload_n 0, 1) := by decide +kernel
theorem dX9_bakerNameByte_13 : decode cX9_bakerNameByte 13 = .ok (.aload_n 0, 1) := by decide +kernel
theorem dX9_bakerNameByte_14 : decode cX9_bakerNameByte 14 = .ok (.getfield 7, 3) := by decide +kernel
theorem dX9_bakerNameByte_17 : decode cX9_bakerNameByte 17 = .ok (.iload_n 1, 1) := by decide +kernel
theorem dX9_bakerNameByte_18 : decode cX9_bakerNameByte 18 = .ok (.invokestatic 100, 3) := by decide +kernel
theorem dX9_bakerNameByte_21 : decode cX9_bakerNameByte 21 = .ok (.iconst 0, 1) := by decide +kernel
theorem dX9_bakerNameByte_22 : decode cX9_bakerNameByte 22 = .ok (.iadd, 1) := by decide +kernel
theorem dX9_bakerNameByte_23 : decode cX9_bakerNameByte 23 = .ok (.iaload, 1) := by decide +kernel
theorem dX9_bakerNameByte_24 : decode cX9_bakerNameByte 24 = .ok (.iload_n 2, 1) := by decide +kernel
theorem dX9_bakerNameByte_25 : decode cX9_bakerNameByte 25 = .ok (.invokevirtual 326, 3) := by decide +kernel
theorem dX9_bakerNameByte_28 : decode cX9_bakerNameByte 28 = .ok (.ireturn, 1) := by decide +kernel
theorem dX9_ovenSize_0 : decode cX9_ovenSize 0 = .ok (.aload_n 0, 1) := by decide +kernel
theorem dX9_ovenSize_1 : decode cX9_ovenSize 1 = .ok (.iload_n 1, 1) := by decide +kernel
theorem dX9_ovenSize_2 : decode cX9_ovenSize 2 = .ok (.invokevirtual 323, 3) := by decide +kernel
theorem dX9_ovenSize_5 : decode cX9_ovenSize 5 = .ok (.ifCond .eq 7, 3) := by decide +kernel
theorem dX9_ovenSize_8 : decode cX9_ovenSize 8 = .ok (.iconst 0, 1) := by decide +kernel
theorem dX9_ovenSize_9 : decode cX9_ovenSize 9 = .ok (.goto 14, 3) := by decide +kernel
theorem dX9_ovenSize_12 : decode cX9_ovenSize 12 = .ok (.aload_n 0, 1) := by decide +kernel
theorem dX9_ovenSize_13 : decode cX9_ovenSize 13 = .ok (.getfield 7, 3) := by decide +kernel
theorem dX9_ovenSize_16 : decode cX9_ovenSize 16 = .ok (.iload_n 1, 1) := by decide +kernel
theorem dX9_ovenSize_17 : decode cX9_ovenSize 17 = .ok (.invokestatic 100, 3) := by decide +kernel
theorem dX9_ovenSize_20 : decode cX9_ovenSize 20 = .ok (.iconst 1, 1) := by decide +kernel
theorem dX9_ovenSize_21 : decode cX9_ovenSize 21 = .ok (.iadd, 1) := by decide +kernel
theorem dX9_ovenSize_22 : decode cX9_ovenSize 22 = .ok (.iaload, 1) := by decide +kernel
theorem dX9_ovenSize_23 : decode cX9_ovenSize 23 = .ok (.ireturn, 1) := by decide +kernel
theorem dX9_bakingKind_0 : decode cX9_bakingKind 0 = .ok (.aload_n 0, 1) := by decide +kernel
theorem dX9_bakingKind_1 : decode cX9_bakingKind 1 = .ok (.iload_n 1, 1) := by decide +kernel
theorem dX9_bakingKind_2 : decode cX9_bakingKind 2 = .ok (.invokevirtual 323, 3) := by decide +kernel
theorem dX9_bakingKind_5 : decode cX9_bakingKind 5 = .ok (.ifCond .eq 7, 3) := by decide +kernel
theorem dX9_bakingKind_8 : decode cX9_bakingKind 8 = .ok (.iconst 0, 1) := by decide +kernel
theorem dX9_bakingKind_9 : decode cX9_bakingKind 9 = .ok (.goto 32, 3) := by decide +kernel
theorem dX9_bakingKind_12 : decode cX9_bakingKind 12 = .ok (.aload_n 0, 1) := by decide +kernel
theorem dX9_bakingKind_13 : decode cX9_bakingKind 13 = .ok (.getfield 7, 3) := by decide +kernel
theorem dX9_bakingKind_16 : decode cX9_bakingKind 16 = .ok (.iload_n 1, 1) := by decide +kernel
theorem dX9_bakingKind_17 : decode cX9_bakingKind 17 = .ok (.invokestatic 100, 3) := by decide +kernel
theorem dX9_bakingKind_20 : decode cX9_bakingKind 20 = .ok (.iconst 4, 1) := by decide +kernel
theorem dX9_bakingKind_21 : decode cX9_bakingKind 21 = .ok (.iadd, 1) := by decide +kernel
theorem dX9_bakingKind_22 : decode cX9_bakingKind 22 = .ok (.iaload, 1) := by decide +kernel
theorem dX9_bakingKind_23 : decode cX9_bakingKind 23 = .ok (.ifCond .le 17, 3) := by decide +kernel
theorem dX9_bakingKind_26 : decode cX9_bakingKind 26 = .ok (.aload_n 0, 1) := by decide +kernel
theorem dX9_bakingKind_27 : decode cX9_bakingKind 27 = .ok (.getfield 7, 3) := by decide +kernel
theorem dX9_bakingKind_30 : decode cX9_bakingKind 30 = .ok (.iload_n 1, 1) := by decide +kernel
theorem dX9_bakingKind_31 : decode cX9_bakingKind 31 = .ok (.invokestatic 100, 3) := by decide +kernel
theorem dX9_bakingKind_34 : decode cX9_bakingKind 34 = .ok (.iconst 3, 1) := by decide +kernel
theorem dX9_bakingKind_35 : decode cX9_bakingKind 35 = .ok (.iadd, 1) := by decide +kernel
theorem dX9_bakingKind_36 : decode cX9_bakingKind 36 = .ok (.iaload, 1) := by decide +kernel
theorem dX9_bakingKind_37 : decode cX9_bakingKind 37 = .ok (.goto 4, 3) := by decide +kernel
theorem dX9_bakingKind_40 : decode cX9_bakingKind 40 = .ok (.iconst (-1), 1) := by decide +kernel
theorem dX9_bakingKind_41 : decode cX9_bakingKind 41 = .ok (.ireturn, 1) := by decide +kernel
theorem dX9_hoursLeft_0 : decode cX9_hoursLeft 0 = .ok (.aload_n 0, 1) := by decide +kernel
theorem dX9_hoursLeft_1 : decode cX9_hoursLeft 1 = .ok (.iload_n 1, 1) := by decide +kernel
theorem dX9_hoursLeft_2 : decode cX9_hoursLeft 2 = .ok (.invokevirtual 323, 3) := by decide +kernel
theorem dX9_hoursLeft_5 : decode cX9_hoursLeft 5 = .ok (.ifCond .eq 7, 3) := by decide +kernel
theorem dX9_hoursLeft_8 : decode cX9_hoursLeft 8 = .ok (.iconst 0, 1) := by decide +kernel
theorem dX9_hoursLeft_9 : decode cX9_hoursLeft 9 = .ok (.goto 14, 3) := by decide +kernel
theorem dX9_hoursLeft_12 : decode cX9_hoursLeft 12 = .ok (.aload_n 0, 1) := by decide +kernel
theorem dX9_hoursLeft_13 : decode cX9_hoursLeft 13 = .ok (.getfield 7, 3) := by decide +kernel
theorem dX9_hoursLeft_16 : decode cX9_hoursLeft 16 = .ok (.iload_n 1, 1) := by decide +kernel
theorem dX9_hoursLeft_17 : decode cX9_hoursLeft 17 = .ok (.invokestatic 100, 3) := by decide +kernel
theorem dX9_hoursLeft_20 : decode cX9_hoursLeft 20 = .ok (.iconst 4, 1) := by decide +kernel
theorem dX9_hoursLeft_21 : decode cX9_hoursLeft 21 = .ok (.iadd, 1) := by decide +kernel
theorem dX9_hoursLeft_22 : decode cX9_hoursLeft 22 = .ok (.iaload, 1) := by decide +kernel
theorem dX9_hoursLeft_23 : decode cX9_hoursLeft 23 = .ok (.ireturn, 1) := by decide +kernel
theorem dX9_income_0 : decode cX9_income 0 = .ok (.aload_n 0, 1) := by decide +kernel
theorem dX9_income_1 : decode cX9_income 1 = .ok (.iload_n 1, 1) := by decide +kernel
theorem dX9_income_2 : decode cX9_income 2 = .ok (.invokevirtual 323, 3) := by decide +kernel
theorem dX9_income_5 : decode cX9_income 5 = .ok (.ifCond .eq 7, 3) := by decide +kernel
theorem dX9_income_8 : decode cX9_income 8 = .ok (.iconst 0, 1) := by decide +kernel
theorem dX9_income_9 : decode cX9_income 9 = .ok (.goto 14, 3) := by decide +kernel
theorem dX9_income_12 : decode cX9_income 12 = .ok (.aload_n 0, 1) := by decide +kernel
theorem dX9_income_13 : decode cX9_income 13 = .ok (.getfield 7, 3) := by decide +kernel
theorem dX9_income_16 : decode cX9_income 16 = .ok (.iload_n 1, 1) := by decide +kernel
theorem dX9_income_17 : decode cX9_income 17 = .ok (.invokestatic 100, 3) := by decide +kernel
theorem dX9_income_20 : decode cX9_income 20 = .ok (.iconst 5, 1) := by decide +kernel
theorem dX9_income_21 : decode cX9_income 21 = .ok (.iadd, 1) := by decide +kernel
theorem dX9_income_22 : decode cX9_income 22 = .ok (.iaload, 1) := by decide +kernel
theorem dX9_income_23 : decode cX9_income 23 = .ok (.ireturn, 1) := by decide +kernel
theorem dX9_bakeRefusal_0 : decode cX9_bakeRefusal 0 = .ok (.aload_n 0, 1) := by decide +kernel
theorem dX9_bakeRefusal_1 : decode cX9_bakeRefusal 1 = .ok (.iload_n 1, 1) := by decide +kernel
theorem dX9_bakeRefusal_2 : decode cX9_bakeRefusal 2 = .ok (.invokevirtual 323, 3) := by decide +kernel
theorem dX9_bakeRefusal_5 : decode cX9_bakeRefusal 5 = .ok (.ifCond .ne 11, 3) := by decide +kernel
theorem dX9_bakeRefusal_8 : decode cX9_bakeRefusal 8 = .ok (.aload_n 0, 1) := by decide +kernel
theorem dX9_bakeRefusal_9 : decode cX9_bakeRefusal 9 = .ok (.iload_n 2, 1) := by decide +kernel
theorem dX9_bakeRefusal_10 : decode cX9_bakeRefusal 10 = .ok (.invokevirtual 329, 3) := by decide +kernel
theorem dX9_bakeRefusal_13 : decode cX9_bakeRefusal 13 = .ok (.ifCond .eq 7, 3) := by decide +kernel
theorem dX9_bakeRefusal_16 : decode cX9_bakeRefusal 16 = .ok (.iconst 0, 1) := by decide +kernel
theorem dX9_bakeRefusal_17 : decode cX9_bakeRefusal 17 = .ok (.goto 11, 3) := by decide +kernel
theorem dX9_bakeRefusal_20 : decode cX9_bakeRefusal 20 = .ok (.aload_n 0, 1) := by decide +kernel
theorem dX9_bakeRefusal_21 : decode cX9_bakeRefusal 21 = .ok (.getfield 7, 3) := by decide +kernel
theorem dX9_bakeRefusal_24 : decode cX9_bakeRefusal 24 = .ok (.iload_n 1, 1) := by decide +kernel
theorem dX9_bakeRefusal_25 : decode cX9_bakeRefusal 25 = .ok (.invokestatic 254, 3) := by decide +kernel
theorem dX9_bakeRefusal_28 : decode cX9_bakeRefusal 28 = .ok (.ireturn, 1) := by decide +kernel
theorem dX9_ofIt_0 : decode cX9_ofIt 0 = .ok (.aload_n 0, 1) := by decide +kernel
theorem dX9_ofIt_1 : decode cX9_ofIt 1 = .ok (.iload_n 1, 1) := by decide +kernel
theorem dX9_ofIt_2 : decode cX9_ofIt 2 = .ok (.invokevirtual 332, 3) := by decide +kernel
theorem dX9_ofIt_5 : decode cX9_ofIt 5 = .ok (.ifCond .eq 7, 3) := by decide +kernel
theorem dX9_ofIt_8 : decode cX9_ofIt 8 = .ok (.iconst 0, 1) := by decide +kernel
theorem dX9_ofIt_9 : decode cX9_ofIt 9 = .ok (.goto 14, 3) := by decide +kernel
theorem dX9_ofIt_12 : decode cX9_ofIt 12 = .ok (.aload_n 0, 1) := by decide +kernel
theorem dX9_ofIt_13 : decode cX9_ofIt 13 = .ok (.getfield 7, 3) := by decide +kernel
theorem dX9_ofIt_16 : decode cX9_ofIt 16 = .ok (.iload_n 1, 1) := by decide +kernel
theorem dX9_ofIt_17 : decode cX9_ofIt 17 = .ok (.invokestatic 111, 3) := by decide +kernel
theorem dX9_ofIt_20 : decode cX9_ofIt 20 = .ok (.iload_n 2, 1) := by decide +kernel
theorem dX9_ofIt_21 : decode cX9_ofIt 21 = .ok (.iadd, 1) := by decide +kernel
theorem dX9_ofIt_22 : decode cX9_ofIt 22 = .ok (.iaload, 1) := by decide +kernel
theorem dX9_ofIt_23 : decode cX9_ofIt 23 = .ok (.ireturn, 1) := by decide +kernel
theorem dX9_customerNameByte_0 : decode cX9_customerNameByte 0 = .ok (.aload_n 0, 1) := by decide +kernel
theorem dX9_customerNameByte_1 : decode cX9_customerNameByte 1 = .ok (.iload_n 1, 1) := by decide +kernel
theorem dX9_customerNameByte_2 : decode cX9_customerNameByte 2 = .ok (.invokevirtual 332, 3) := by decide +kernel
theorem dX9_customerNameByte_5 : decode cX9_customerNameByte 5 = .ok (.ifCond .eq 7, 3) := by decide +kernel
theorem dX9_customerNameByte_8 : decode cX9_customerNameByte 8 = .ok (.iconst 0, 1) := by decide +kernel
theorem dX9_customerNameByte_9 : decode cX9_customerNameByte 9 = .ok (.goto 19, 3) := by decide +kernel
theorem dX9_customerNameByte_12 : decode cX9_customerNameByte 12 = .ok (.aload_n 0, 1) := by decide +kernel
theorem dX9_customerNameByte_13 : decode cX9_customerNameByte 13 = .ok (.aload_n 0, 1) := by decide +kernel
theorem dX9_customerNameByte_14 : decode cX9_customerNameByte 14 = .ok (.getfield 7, 3) := by decide +kernel
theorem dX9_customerNameByte_17 : decode cX9_customerNameByte 17 = .ok (.iload_n 1, 1) := by decide +kernel
theorem dX9_customerNameByte_18 : decode cX9_customerNameByte 18 = .ok (.invokestatic 111, 3) := by decide +kernel
theorem dX9_customerNameByte_21 : decode cX9_customerNameByte 21 = .ok (.iconst 0, 1) := by decide +kernel
theorem dX9_customerNameByte_22 : decode cX9_customerNameByte 22 = .ok (.iadd, 1) := by decide +kernel
theorem dX9_customerNameByte_23 : decode cX9_customerNameByte 23 = .ok (.iaload, 1) := by decide +kernel
theorem dX9_customerNameByte_24 : decode cX9_customerNameByte 24 = .ok (.iload_n 2, 1) := by decide +kernel
theorem dX9_customerNameByte_25 : decode cX9_customerNameByte 25 = .ok (.invokevirtual 326, 3) := by decide +kernel
theorem dX9_customerNameByte_28 : decode cX9_customerNameByte 28 = .ok (.ireturn, 1) := by decide +kernel
theorem dX9_ticketOf_0 : decode cX9_ticketOf 0 = .ok (.aload_n 0, 1) := by decide +kernel
theorem dX9_ticketOf_1 : decode cX9_ticketOf 1 = .ok (.iload_n 1, 1) := by decide +kernel
theorem dX9_ticketOf_2 : decode cX9_ticketOf 2 = .ok (.bipush 6, 2) := by decide +kernel
theorem dX9_ticketOf_4 : decode cX9_ticketOf 4 = .ok (.invokevirtual 335, 3) := by decide +kernel
theorem dX9_ticketOf_7 : decode cX9_ticketOf 7 = .ok (.ireturn, 1) := by decide +kernel
theorem dX9_kindWanted_0 : decode cX9_kindWanted 0 = .ok (.aload_n 0, 1) := by decide +kernel
theorem dX9_kindWanted_1 : decode cX9_kindWanted 1 = .ok (.iload_n 1, 1) := by decide +kernel
theorem dX9_kindWanted_2 : decode cX9_kindWanted 2 = .ok (.iconst 1, 1) := by decide +kernel
theorem dX9_kindWanted_3 : decode cX9_kindWanted 3 = .ok (.invokevirtual 335, 3) := by decide +kernel
theorem dX9_kindWanted_6 : decode cX9_kindWanted 6 = .ok (.ireturn, 1) := by decide +kernel
theorem dX9_wanted_0 : decode cX9_wanted 0 = .ok (.aload_n 0, 1) := by decide +kernel
theorem dX9_wanted_1 : decode cX9_wanted 1 = .ok (.iload_n 1, 1) := by decide +kernel
theorem dX9_wanted_2 : decode cX9_wanted 2 = .ok (.iconst 2, 1) := by decide +kernel
theorem dX9_wanted_3 : decode cX9_wanted 3 = .ok (.invokevirtual 335, 3) := by decide +kernel
theorem dX9_wanted_6 : decode cX9_wanted 6 = .ok (.ireturn, 1) := by decide +kernel
theorem dX9_limitPrice_0 : decode cX9_limitPrice 0 = .ok (.aload_n 0, 1) := by decide +kernel
theorem dX9_limitPrice_1 : decode cX9_limitPrice 1 = .ok (.iload_n 1, 1) := by decide +kernel
theorem dX9_limitPrice_2 : decode cX9_limitPrice 2 = .ok (.iconst 3, 1) := by decide +kernel
theorem dX9_limitPrice_3 : decode cX9_limitPrice 3 = .ok (.invokevirtual 335, 3) := by decide +kernel
theorem dX9_limitPrice_6 : decode cX9_limitPrice 6 = .ok (.ireturn, 1) := by decide +kernel
theorem dX9_purse_0 : decode cX9_purse 0 = .ok (.aload_n 0, 1) := by decide +kernel
theorem dX9_purse_1 : decode cX9_purse 1 = .ok (.iload_n 1, 1) := by decide +kernel
theorem dX9_purse_2 : decode cX9_purse 2 = .ok (.iconst 4, 1) := by decide +kernel
theorem dX9_purse_3 : decode cX9_purse 3 = .ok (.invokevirtual 335, 3) := by decide +kernel
theorem dX9_purse_6 : decode cX9_purse 6 = .ok (.ireturn, 1) := by decide +kernel
theorem dX9_patience_0 : decode cX9_patience 0 = .ok (.aload_n 0, 1) := by decide +kernel
theorem dX9_patience_1 : decode cX9_patience 1 = .ok (.iload_n 1, 1) := by decide +kernel
theorem dX9_patience_2 : decode cX9_patience 2 = .ok (.iconst 5, 1) := by decide +kernel
theorem dX9_patience_3 : decode cX9_patience 3 = .ok (.invokevirtual 335, 3) := by decide +kernel
theorem dX9_patience_6 : decode cX9_patience 6 = .ok (.ireturn, 1) := by decide +kernel
theorem dX9_customerWithTicket_0 : decode cX9_customerWithTicket 0 = .ok (.aload_n 0, 1) := by decide +kernel
theorem dX9_customerWithTicket_1 : decode cX9_customerWithTicket 1 = .ok (.iconst 0, 1) := by decide +kernel
theorem dX9_customerWithTicket_2 : decode cX9_customerWithTicket 2 = .ok (.putfield 75, 3) := by decide +kernel
theorem dX9_customerWithTicket_5 : decode cX9_customerWithTicket 5 = .ok (.iconst 0, 1) := by decide +kernel
theorem dX9_customerWithTicket_6 : decode cX9_customerWithTicket 6 = .ok (.istore_n 2, 1) := by decide +kernel
theorem dX9_customerWithTicket_7 : decode cX9_customerWithTicket 7 = .ok (.iload_n 2, 1) := by decide +kernel
theorem dX9_customerWithTicket_8 : decode cX9_customerWithTicket 8 = .ok (.aload_n 0, 1) := by decide +kernel
theorem dX9_customerWithTicket_9 : decode cX9_customerWithTicket 9 = .ok (.getfield 7, 3) := by decide +kernel
theorem dX9_customerWithTicket_12 : decode cX9_customerWithTicket 12 = .ok (.iconst 2, 1) := by decide +kernel
theorem dX9_customerWithTicket_13 : decode cX9_customerWithTicket 13 = .ok (.iaload, 1) := by decide +kernel
theorem dX9_customerWithTicket_14 : decode cX9_customerWithTicket 14 = .ok (.if_icmp .ge 27, 3) := by decide +kernel
theorem dX9_customerWithTicket_17 : decode cX9_customerWithTicket 17 = .ok (.aload_n 0, 1) := by decide +kernel
theorem dX9_customerWithTicket_18 : decode cX9_customerWithTicket 18 = .ok (.getfield 7, 3) := by decide +kernel
theorem dX9_customerWithTicket_21 : decode cX9_customerWithTicket 21 = .ok (.iload_n 2, 1) := by decide +kernel
theorem dX9_customerWithTicket_22 : decode cX9_customerWithTicket 22 = .ok (.invokestatic 111, 3) := by decide +kernel
theorem dX9_customerWithTicket_25 : decode cX9_customerWithTicket 25 = .ok (.bipush 6, 2) := by decide +kernel
theorem dX9_customerWithTicket_27 : decode cX9_customerWithTicket 27 = .ok (.iadd, 1) := by decide +kernel
theorem dX9_customerWithTicket_28 : decode cX9_customerWithTicket 28 = .ok (.iaload, 1) := by decide +kernel
theorem dX9_customerWithTicket_29 : decode cX9_customerWithTicket 29 = .ok (.iload_n 1, 1) := by decide +kernel
theorem dX9_customerWithTicket_30 : decode cX9_customerWithTicket 30 = .ok (.if_icmp .ne 5, 3) := by decide +kernel
theorem dX9_customerWithTicket_33 : decode cX9_customerWithTicket 33 = .ok (.iload_n 2, 1) := by decide +kernel
theorem dX9_customerWithTicket_34 : decode cX9_customerWithTicket 34 = .ok (.ireturn, 1) := by decide +kernel
theorem dX9_customerWithTicket_35 : decode cX9_customerWithTicket 35 = .ok (.iinc 2 1, 3) := by decide +kernel
theorem dX9_customerWithTicket_38 : decode cX9_customerWithTicket 38 = .ok (.goto (-31), 3) := by decide +kernel
theorem dX9_customerWithTicket_41 : decode cX9_customerWithTicket 41 = .ok (.iconst (-1), 1) := by decide +kernel
theorem dX9_customerWithTicket_42 : decode cX9_customerWithTicket 42 = .ok (.ireturn, 1) := by decide +kernel
theorem dX9_loafKind_0 : decode cX9_loafKind 0 = .ok (.aload_n 0, 1) := by decide +kernel
theorem dX9_loafKind_1 : decode cX9_loafKind 1 = .ok (.iload_n 1, 1) := by decide +kernel
theorem dX9_loafKind_2 : decode cX9_loafKind 2 = .ok (.invokevirtual 338, 3) := by decide +kernel
theorem dX9_loafKind_5 : decode cX9_loafKind 5 = .ok (.ifCond .eq 7, 3) := by decide +kernel
theorem dX9_loafKind_8 : decode cX9_loafKind 8 = .ok (.iconst 0, 1) := by decide +kernel
theorem dX9_loafKind_9 : decode cX9_loafKind 9 = .ok (.goto 14, 3) := by decide +kernel
theorem dX9_loafKind_12 : decode cX9_loafKind 12 = .ok (.aload_n 0, 1) := by decide +kernel
theorem dX9_loafKind_13 : decode cX9_loafKind 13 = .ok (.getfield 7, 3) := by decide +kernel
theorem dX9_loafKind_16 : decode cX9_loafKind 16 = .ok (.iload_n 1, 1) := by decide +kernel
theorem dX9_loafKind_17 : decode cX9_loafKind 17 = .ok (.invokestatic 89, 3) := by decide +kernel
theorem dX9_loafKind_20 : decode cX9_loafKind 20 = .ok (.iconst 0, 1) := by decide +kernel
theorem dX9_loafKind_21 : decode cX9_loafKind 21 = .ok (.iadd, 1) := by decide +kernel
theorem dX9_loafKind_22 : decode cX9_loafKind 22 = .ok (.iaload, 1) := by decide +kernel
theorem dX9_loafKind_23 : decode cX9_loafKind 23 = .ok (.ireturn, 1) := by decide +kernel
theorem dX9_loafBaker_0 : decode cX9_loafBaker 0 = .ok (.aload_n 0, 1) := by decide +kernel
theorem dX9_loafBaker_1 : decode cX9_loafBaker 1 = .ok (.iload_n 1, 1) := by decide +kernel
theorem dX9_loafBaker_2 : decode cX9_loafBaker 2 = .ok (.invokevirtual 338, 3) := by decide +kernel
theorem dX9_loafBaker_5 : decode cX9_loafBaker 5 = .ok (.ifCond .eq 7, 3) := by decide +kernel
theorem dX9_loafBaker_8 : decode cX9_loafBaker 8 = .ok (.iconst 0, 1) := by decide +kernel
theorem dX9_loafBaker_9 : decode cX9_loafBaker 9 = .ok (.goto 14, 3) := by decide +kernel
theorem dX9_loafBaker_12 : decode cX9_loafBaker 12 = .ok (.aload_n 0, 1) := by decide +kernel
theorem dX9_loafBaker_13 : decode cX9_loafBaker 13 = .ok (.getfield 7, 3) := by decide +kernel
theorem dX9_loafBaker_16 : decode cX9_loafBaker 16 = .ok (.iload_n 1, 1) := by decide +kernel
theorem dX9_loafBaker_17 : decode cX9_loafBaker 17 = .ok (.invokestatic 89, 3) := by decide +kernel
theorem dX9_loafBaker_20 : decode cX9_loafBaker 20 = .ok (.iconst 1, 1) := by decide +kernel
theorem dX9_loafBaker_21 : decode cX9_loafBaker 21 = .ok (.iadd, 1) := by decide +kernel
theorem dX9_loafBaker_22 : decode cX9_loafBaker 22 = .ok (.iaload, 1) := by decide +kernel
theorem dX9_loafBaker_23 : decode cX9_loafBaker 23 = .ok (.ireturn, 1) := by decide +kernel
theorem dX9_loafAge_0 : decode cX9_loafAge 0 = .ok (.aload_n 0, 1) := by decide +kernel
theorem dX9_loafAge_1 : decode cX9_loafAge 1 = .ok (.iload_n 1, 1) := by decide +kernel
theorem dX9_loafAge_2 : decode cX9_loafAge 2 = .ok (.invokevirtual 338, 3) := by decide +kernel
theorem dX9_loafAge_5 : decode cX9_loafAge 5 = .ok (.ifCond .eq 7, 3) := by decide +kernel
theorem dX9_loafAge_8 : decode cX9_loafAge 8 = .ok (.iconst 0, 1) := by decide +kernel
theorem dX9_loafAge_9 : decode cX9_loafAge 9 = .ok (.goto 11, 3) := by decide +kernel
theorem dX9_loafAge_12 : decode cX9_loafAge 12 = .ok (.aload_n 0, 1) := by decide +kernel
theorem dX9_loafAge_13 : decode cX9_loafAge 13 = .ok (.getfield 7, 3) := by decide +kernel
theorem dX9_loafAge_16 : decode cX9_loafAge 16 = .ok (.iload_n 1, 1) := by decide +kernel
theorem dX9_loafAge_17 : decode cX9_loafAge 17 = .ok (.invokestatic 92, 3) := by decide +kernel
theorem dX9_loafAge_20 : decode cX9_loafAge 20 = .ok (.ireturn, 1) := by decide +kernel
theorem dX9_reservePrice_0 : decode cX9_reservePrice 0 = .ok (.aload_n 0, 1) := by decide +kernel
theorem dX9_reservePrice_1 : decode cX9_reservePrice 1 = .ok (.iload_n 1, 1) := by decide +kernel
theorem dX9_reservePrice_2 : decode cX9_reservePrice 2 = .ok (.invokevirtual 338, 3) := by decide +kernel
theorem dX9_reservePrice_5 : decode cX9_reservePrice 5 = .ok (.ifCond .eq 7, 3) := by decide +kernel
theorem dX9_reservePrice_8 : decode cX9_reservePrice 8 = .ok (.iconst 0, 1) := by decide +kernel
theorem dX9_reservePrice_9 : decode cX9_reservePrice 9 = .ok (.goto 11, 3) := by decide +kernel
theorem dX9_reservePrice_12 : decode cX9_reservePrice 12 = .ok (.aload_n 0, 1) := by decide +kernel
theorem dX9_reservePrice_13 : decode cX9_reservePrice 13 = .ok (.getfield 7, 3) := by decide +kernel
theorem dX9_reservePrice_16 : decode cX9_reservePrice 16 = .ok (.iload_n 1, 1) := by decide +kernel
theorem dX9_reservePrice_17 : decode cX9_reservePrice 17 = .ok (.invokestatic 123, 3) := by decide +kernel
theorem dX9_reservePrice_20 : decode cX9_reservePrice 20 = .ok (.ireturn, 1) := by decide +kernel
theorem dX9_hoursUntilStale_0 : decode cX9_hoursUntilStale 0 = .ok (.aload_n 0, 1) := by decide +kernel
theorem dX9_hoursUntilStale_1 : decode cX9_hoursUntilStale 1 = .ok (.iload_n 1, 1) := by decide +kernel
theorem dX9_hoursUntilStale_2 : decode cX9_hoursUntilStale 2 = .ok (.invokevirtual 338, 3) := by decide +kernel
theorem dX9_hoursUntilStale_5 : decode cX9_hoursUntilStale 5 = .ok (.ifCond .eq 5, 3) := by decide +kernel
theorem dX9_hoursUntilStale_8 : decode cX9_hoursUntilStale 8 = .ok (.iconst 0, 1) := by decide +kernel
theorem dX9_hoursUntilStale_9 : decode cX9_hoursUntilStale 9 = .ok (.ireturn, 1) := by decide +kernel
theorem dX9_hoursUntilStale_10 : decode cX9_hoursUntilStale 10 = .ok (.iconst 0, 1) := by decide +kernel
theorem dX9_hoursUntilStale_11 : decode cX9_hoursUntilStale 11 = .ok (.istore_n 2, 1) := by decide +kernel
theorem dX9_hoursUntilStale_12 : decode cX9_hoursUntilStale 12 = .ok (.iload_n 2, 1) := by decide +kernel
theorem dX9_hoursUntilStale_13 : decode cX9_hoursUntilStale 13 = .ok (.bipush 100, 2) := by decide +kernel
theorem dX9_hoursUntilStale_15 : decode cX9_hoursUntilStale 15 = .ok (.if_icmp .gt 42, 3) := by decide +kernel
theorem dX9_hoursUntilStale_18 : decode cX9_hoursUntilStale 18 = .ok (.aload_n 0, 1) := by decide +kernel
theorem dX9_hoursUntilStale_19 : decode cX9_hoursUntilStale 19 = .ok (.getfield 7, 3) := by decide +kernel
theorem dX9_hoursUntilStale_22 : decode cX9_hoursUntilStale 22 = .ok (.aload_n 0, 1) := by decide +kernel
theorem dX9_hoursUntilStale_23 : decode cX9_hoursUntilStale 23 = .ok (.getfield 7, 3) := by decide +kernel
theorem dX9_hoursUntilStale_26 : decode cX9_hoursUntilStale 26 = .ok (.iload_n 1, 1) := by decide +kernel
theorem dX9_hoursUntilStale_27 : decode cX9_hoursUntilStale 27 = .ok (.invokestatic 89, 3) := by decide +kernel
theorem dX9_hoursUntilStale_30 : decode cX9_hoursUntilStale 30 = .ok (.iconst 0, 1) := by decide +kernel
theorem dX9_hoursUntilStale_31 : decode cX9_hoursUntilStale 31 = .ok (.iadd, 1) := by decide +kernel
theorem dX9_hoursUntilStale_32 : decode cX9_hoursUntilStale 32 = .ok (.iaload, 1) := by decide +kernel
theorem dX9_hoursUntilStale_33 : decode cX9_hoursUntilStale 33 = .ok (.aload_n 0, 1) := by decide +kernel
theorem dX9_hoursUntilStale_34 : decode cX9_hoursUntilStale 34 = .ok (.getfield 7, 3) := by decide +kernel
theorem dX9_hoursUntilStale_37 : decode cX9_hoursUntilStale 37 = .ok (.iload_n 1, 1) := by decide +kernel
theorem dX9_hoursUntilStale_38 : decode cX9_hoursUntilStale 38 = .ok (.invokestatic 92, 3) := by decide +kernel
theorem dX9_hoursUntilStale_41 : decode cX9_hoursUntilStale 41 = .ok (.iload_n 2, 1) := by decide +kernel
theorem dX9_hoursUntilStale_42 : decode cX9_hoursUntilStale 42 = .ok (.iadd, 1) := by decide +kernel
theorem dX9_hoursUntilStale_43 : decode cX9_hoursUntilStale 43 = .ok (.invokestatic 96, 3) := by decide +kernel
theorem dX9_hoursUntilStale_46 : decode cX9_hoursUntilStale 46 = .ok (.ifCond .ne 5, 3) := by decide +kernel
theorem dX9_hoursUntilStale_49 : decode cX9_hoursUntilStale 49 = .ok (.iload_n 2, 1) := by decide +kernel
theorem dX9_hoursUntilStale_50 : decode cX9_hoursUntilStale 50 = .ok (.ireturn, 1) := by decide +kernel
theorem dX9_hoursUntilStale_51 : decode cX9_hoursUntilStale 51 = .ok (.iinc 2 1, 3) := by decide +kernel
theorem dX9_hoursUntilStale_54 : decode cX9_hoursUntilStale 54 = .ok (.goto (-42), 3) := by decide +kernel
theorem dX9_hoursUntilStale_57 : decode cX9_hoursUntilStale 57 = .ok (.iconst (-1), 1) := by decide +kernel
theorem dX9_hoursUntilStale_58 : decode cX9_hoursUntilStale 58 = .ok (.ireturn, 1) := by decide +kernel
theorem dX9_basePrice_0 : decode cX9_basePrice 0 = .ok (.aload_n 0, 1) := by decide +kernel
theorem dX9_basePrice_1 : decode cX9_basePrice 1 = .ok (.iload_n 1, 1) := by decide +kernel
theorem dX9_basePrice_2 : decode cX9_basePrice 2 = .ok (.invokevirtual 329, 3) := by decide +kernel
theorem dX9_basePrice_5 : decode cX9_basePrice 5 = .ok (.ifCond .eq 7, 3) := by decide +kernel
theorem dX9_basePrice_8 : decode cX9_basePrice 8 = .ok (.iconst 0, 1) := by decide +kernel
theorem dX9_basePrice_9 : decode cX9_basePrice 9 = .ok (.goto 12, 3) := by decide +kernel
theorem dX9_basePrice_12 : decode cX9_basePrice 12 = .ok (.aload_n 0, 1) := by decide +kernel
theorem dX9_basePrice_13 : decode cX9_basePrice 13 = .ok (.getfield 7, 3) := by decide +kernel
theorem dX9_basePrice_16 : decode cX9_basePrice 16 = .ok (.bipush 13, 2) := by decide +kernel
theorem dX9_basePrice_18 : decode cX9_basePrice 18 = .ok (.iload_n 1, 1) := by decide +kernel
theorem dX9_basePrice_19 : decode cX9_basePrice 19 = .ok (.iadd, 1) := by decide +kernel
theorem dX9_basePrice_20 : decode cX9_basePrice 20 = .ok (.iaload, 1) := by decide +kernel
theorem dX9_basePrice_21 : decode cX9_basePrice 21 = .ok (.ireturn, 1) := by decide +kernel
theorem dX9_reserveAt_0 : decode cX9_reserveAt 0 = .ok (.aload_n 0, 1) := by decide +kernel
theorem dX9_reserveAt_1 : decode cX9_reserveAt 1 = .ok (.iload_n 1, 1) := by decide +kernel
theorem dX9_reserveAt_2 : decode cX9_reserveAt 2 = .ok (.invokevirtual 329, 3) := by decide +kernel
theorem dX9_reserveAt_5 : decode cX9_reserveAt 5 = .ok (.ifCond .ne 15, 3) := by decide +kernel
theorem dX9_reserveAt_8 : decode cX9_reserveAt 8 = .ok (.aload_n 0, 1) := by decide +kernel
theorem dX9_reserveAt_9 : decode cX9_reserveAt 9 = .ok (.iload_n 2, 1) := by decide +kernel
theorem dX9_reserveAt_10 : decode cX9_reserveAt 10 = .ok (.iconst 0, 1) := by decide +kernel
theorem dX9_reserveAt_11 : decode cX9_reserveAt 11 = .ok (.sipush 999, 3) := by decide +kernel
theorem dX9_reserveAt_14 : decode cX9_reserveAt 14 = .ok (.invokevirtual 320, 3) := by decide +kernel
theorem dX9_reserveAt_17 : decode cX9_reserveAt 17 = .ok (.ifCond .eq 7, 3) := by decide +kernel
theorem dX9_reserveAt_20 : decode cX9_reserveAt 20 = .ok (.iconst 0, 1) := by decide +kernel
theorem dX9_reserveAt_21 : decode cX9_reserveAt 21 = .ok (.goto 12, 3) := by decide +kernel
theorem dX9_reserveAt_24 : decode cX9_reserveAt 24 = .ok (.aload_n 0, 1) := by decide +kernel
theorem dX9_reserveAt_25 : decode cX9_reserveAt 25 = .ok (.getfield 7, 3) := by decide +kernel
theorem dX9_reserveAt_28 : decode cX9_reserveAt 28 = .ok (.iload_n 1, 1) := by decide +kernel
theorem dX9_reserveAt_29 : decode cX9_reserveAt 29 = .ok (.iload_n 2, 1) := by decide +kernel
theorem dX9_reserveAt_30 : decode cX9_reserveAt 30 = .ok (.invokestatic 96, 3) := by decide +kernel
theorem dX9_reserveAt_33 : decode cX9_reserveAt 33 = .ok (.ireturn, 1) := by decide +kernel
theorem dX9_noAuction_0 : decode cX9_noAuction 0 = .ok (.aload_n 0, 1) := by decide +kernel
theorem dX9_noAuction_1 : decode cX9_noAuction 1 = .ok (.iload_n 1, 1) := by decide +kernel
theorem dX9_noAuction_2 : decode cX9_noAuction 2 = .ok (.invokevirtual 329, 3) := by decide +kernel
theorem dX9_noAuction_5 : decode cX9_noAuction 5 = .ok (.ifCond .eq 5, 3) := by decide +kernel
theorem dX9_noAuction_8 : decode cX9_noAuction 8 = .ok (.iconst 1, 1) := by decide +kernel
theorem dX9_noAuction_9 : decode cX9_noAuction 9 = .ok (.ireturn, 1) := by decide +kernel
theorem dX9_noAuction_10 : decode cX9_noAuction 10 = .ok (.aload_n 0, 1) := by decide +kernel
theorem dX9_noAuction_11 : decode cX9_noAuction 11 = .ok (.aload_n 0, 1) := by decide +kernel
theorem dX9_noAuction_12 : decode cX9_noAuction 12 = .ok (.getfield 7, 3) := by decide +kernel
theorem dX9_noAuction_15 : decode cX9_noAuction 15 = .ok (.iload_n 1, 1) := by decide +kernel
theorem dX9_noAuction_16 : decode cX9_noAuction 16 = .ok (.invokevirtual 142, 3) := by decide +kernel
theorem dX9_noAuction_19 : decode cX9_noAuction 19 = .ok (.iconst 0, 1) := by decide +kernel
theorem dX9_noAuction_20 : decode cX9_noAuction 20 = .ok (.ireturn, 1) := by decide +kernel
theorem dX9_bidCount_0 : decode cX9_bidCount 0 = .ok (.aload_n 0, 1) := by decide +kernel
theorem dX9_bidCount_1 : decode cX9_bidCount 1 = .ok (.iload_n 1, 1) := by decide +kernel
theorem dX9_bidCount_2 : decode cX9_bidCount 2 = .ok (.invokevirtual 341, 3) := by decide +kernel
theorem dX9_bidCount_5 : decode cX9_bidCount 5 = .ok (.ifCond .eq 7, 3) := by decide +kernel
theorem dX9_bidCount_8 : decode cX9_bidCount 8 = .ok (.iconst 0, 1) := by decide +kernel
theorem dX9_bidCount_9 : decode cX9_bidCount 9 = .ok (.goto 7, 3) := by decide +kernel
theorem dX9_bidCount_12 : decode cX9_bidCount 12 = .ok (.aload_n 0, 1) := by decide +kernel
theorem dX9_bidCount_13 : decode cX9_bidCount 13 = .ok (.getfield 114, 3) := by decide +kernel
theorem dX9_bidCount_16 : decode cX9_bidCount 16 = .ok (.ireturn, 1) := by decide +kernel
theorem dX9_tradeCount_0 : decode cX9_tradeCount 0 = .ok (.aload_n 0, 1) := by decide +kernel
theorem dX9_tradeCount_1 : decode cX9_tradeCount 1 = .ok (.iload_n 1, 1) := by decide +kernel
theorem dX9_tradeCount_2 : decode cX9_tradeCount 2 = .ok (.invokevirtual 341, 3) := by decide +kernel
theorem dX9_tradeCount_5 : decode cX9_tradeCount 5 = .ok (.ifCond .eq 7, 3) := by decide +kernel
theorem dX9_tradeCount_8 : decode cX9_tradeCount 8 = .ok (.iconst 0, 1) := by decide +kernel
theorem dX9_tradeCount_9 : decode cX9_tradeCount 9 = .ok (.goto 7, 3) := by decide +kernel
theorem dX9_tradeCount_12 : decode cX9_tradeCount 12 = .ok (.aload_n 0, 1) := by decide +kernel
theorem dX9_tradeCount_13 : decode cX9_tradeCount 13 = .ok (.getfield 133, 3) := by decide +kernel
theorem dX9_tradeCount_16 : decode cX9_tradeCount 16 = .ok (.ireturn, 1) := by decide +kernel
theorem dX9_clearingPrice_0 : decode cX9_clearingPrice 0 = .ok (.aload_n 0, 1) := by decide +kernel
theorem dX9_clearingPrice_1 : decode cX9_clearingPrice 1 = .ok (.iload_n 1, 1) := by decide +kernel
theorem dX9_clearingPrice_2 : decode cX9_clearingPrice 2 = .ok (.invokevirtual 341, 3) := by decide +kernel
theorem dX9_clearingPrice_5 : decode cX9_clearingPrice 5 = .ok (.ifCond .eq 7, 3) := by decide +kernel
theorem dX9_clearingPrice_8 : decode cX9_clearingPrice 8 = .ok (.iconst 0, 1) := by decide +kernel
theorem dX9_clearingPrice_9 : decode cX9_clearingPrice 9 = .ok (.goto 7, 3) := by decide +kernel
theorem dX9_clearingPrice_12 : decode cX9_clearingPrice 12 = .ok (.aload_n 0, 1) := by decide +kernel
theorem dX9_clearingPrice_13 : decode cX9_clearingPrice 13 = .ok (.getfield 139, 3) := by decide +kernel
theorem dX9_clearingPrice_16 : decode cX9_clearingPrice 16 = .ok (.ireturn, 1) := by decide +kernel
theorem dX9_reasonNoTrades_0 : decode cX9_reasonNoTrades 0 = .ok (.aload_n 0, 1) := by decide +kernel
theorem dX9_reasonNoTrades_1 : decode cX9_reasonNoTrades 1 = .ok (.iload_n 1, 1) := by decide +kernel
theorem dX9_reasonNoTrades_2 : decode cX9_reasonNoTrades 2 = .ok (.invokevirtual 341, 3) := by decide +kernel
theorem dX9_reasonNoTrades_5 : decode cX9_reasonNoTrades 5 = .ok (.ifCond .ne 10, 3) := by decide +kernel
theorem dX9_reasonNoTrades_8 : decode cX9_reasonNoTrades 8 = .ok (.aload_n 0, 1) := by decide +kernel
theorem dX9_reasonNoTrades_9 : decode cX9_reasonNoTrades 9 = .ok (.getfield 133, 3) := by decide +kernel
theorem dX9_reasonNoTrades_12 : decode cX9_reasonNoTrades 12 = .ok (.ifCond .le 5, 3) := by decide +kernel
theorem dX9_reasonNoTrades_15 : decode cX9_reasonNoTrades 15 = .ok (.iconst 0, 1) := by decide +kernel
theorem dX9_reasonNoTrades_16 : decode cX9_reasonNoTrades 16 = .ok (.ireturn, 1) := by decide +kernel
theorem dX9_reasonNoTrades_17 : decode cX9_reasonNoTrades 17 = .ok (.aload_n 0, 1) := by decide +kernel
theorem dX9_reasonNoTrades_18 : decode cX9_reasonNoTrades 18 = .ok (.getfield 120, 3) := by decide +kernel
theorem dX9_reasonNoTrades_21 : decode cX9_reasonNoTrades 21 = .ok (.ifCond .ne 7, 3) := by decide +kernel
theorem dX9_reasonNoTrades_24 : decode cX9_reasonNoTrades 24 = .ok (.iconst 1, 1) := by decide +kernel
theorem dX9_reasonNoTrades_25 : decode cX9_reasonNoTrades 25 = .ok (.goto 15, 3) := by decide +kernel
theorem dX9_reasonNoTrades_28 : decode cX9_reasonNoTrades 28 = .ok (.aload_n 0, 1) := by decide +kernel
theorem dX9_reasonNoTrades_29 : decode cX9_reasonNoTrades 29 = .ok (.getfield 114, 3) := by decide +kernel
theorem dX9_reasonNoTrades_32 : decode cX9_reasonNoTrades 32 = .ok (.ifCond .ne 7, 3) := by decide +kernel
theorem dX9_reasonNoTrades_35 : decode cX9_reasonNoTrades 35 = .ok (.iconst 2, 1) := by decide +kernel
theorem dX9_reasonNoTrades_36 : decode cX9_reasonNoTrades 36 = .ok (.goto 4, 3) := by decide +kernel
theorem dX9_reasonNoTrades_39 : decode cX9_reasonNoTrades 39 = .ok (.iconst 3, 1) := by decide +kernel
theorem dX9_reasonNoTrades_40 : decode cX9_reasonNoTrades 40 = .ok (.ireturn, 1) := by decide +kernel
theorem dX9_buyerOf_0 : decode cX9_buyerOf 0 = .ok (.aload_n 0, 1) := by decide +kernel
theorem dX9_buyerOf_1 : decode cX9_buyerOf 1 = .ok (.iload_n 1, 1) := by decide +kernel
theorem dX9_buyerOf_2 : decode cX9_buyerOf 2 = .ok (.invokevirtual 341, 3) := by decide +kernel
theorem dX9_buyerOf_5 : decode cX9_buyerOf 5 = .ok (.ifCond .ne 18, 3) := by decide +kernel
theorem dX9_buyerOf_8 : decode cX9_buyerOf 8 = .ok (.aload_n 0, 1) := by decide +kernel
theorem dX9_buyerOf_9 : decode cX9_buyerOf 9 = .ok (.iload_n 2, 1) := by decide +kernel
theorem dX9_buyerOf_10 : decode cX9_buyerOf 10 = .ok (.iconst 0, 1) := by decide +kernel
theorem dX9_buyerOf_11 : decode cX9_buyerOf 11 = .ok (.aload_n 0, 1) := by decide +kernel
theorem dX9_buyerOf_12 : decode cX9_buyerOf 12 = .ok (.getfield 133, 3) := by decide +kernel
theorem dX9_buyerOf_15 : decode cX9_buyerOf 15 = .ok (.iconst 1, 1) := by decide +kernel
theorem dX9_buyerOf_16 : decode cX9_buyerOf 16 = .ok (.isub, 1) := by decide +kernel
theorem dX9_buyerOf_17 : decode cX9_buyerOf 17 = .ok (.invokevirtual 320, 3) := by decide +kernel
theorem dX9_buyerOf_20 : decode cX9_buyerOf 20 = .ok (.ifCond .eq 7, 3) := by decide +kernel
theorem dX9_buyerOf_23 : decode cX9_buyerOf 23 = .ok (.iconst 0, 1) := by decide +kernel
theorem dX9_buyerOf_24 : decode cX9_buyerOf 24 = .ok (.goto 9, 3) := by decide +kernel
theorem dX9_buyerOf_27 : decode cX9_buyerOf 27 = .ok (.aload_n 0, 1) := by decide +kernel
theorem dX9_buyerOf_28 : decode cX9_buyerOf 28 = .ok (.getfield 29, 3) := by decide +kernel
theorem dX9_buyerOf_31 : decode cX9_buyerOf 31 = .ok (.iload_n 2, 1) := by decide +kernel
theorem dX9_buyerOf_32 : decode cX9_buyerOf 32 = .ok (.iaload, 1) := by decide +kernel
theorem dX9_buyerOf_33 : decode cX9_buyerOf 33 = .ok (.ireturn, 1) := by decide +kernel
theorem dX9_loafOf_0 : decode cX9_loafOf 0 = .ok (.aload_n 0, 1) := by decide +kernel
theorem dX9_loafOf_1 : decode cX9_loafOf 1 = .ok (.iload_n 1, 1) := by decide +kernel
theorem dX9_loafOf_2 : decode cX9_loafOf 2 = .ok (.invokevirtual 341, 3) := by decide +kernel
theorem dX9_loafOf_5 : decode cX9_loafOf 5 = .ok (.ifCond .ne 18, 3) := by decide +kernel
theorem dX9_loafOf_8 : decode cX9_loafOf 8 = .ok (.aload_n 0, 1) := by decide +kernel
theorem dX9_loafOf_9 : decode cX9_loafOf 9 = .ok (.iload_n 2, 1) := by decide +kernel
theorem dX9_loafOf_10 : decode cX9_loafOf 10 = .ok (.iconst 0, 1) := by decide +kernel
theorem dX9_loafOf_11 : decode cX9_loafOf 11 = .ok (.aload_n 0, 1) := by decide +kernel
theorem dX9_loafOf_12 : decode cX9_loafOf 12 = .ok (.getfield 133, 3) := by decide +kernel
theorem dX9_loafOf_15 : decode cX9_loafOf 15 = .ok (.iconst 1, 1) := by decide +kernel
theorem dX9_loafOf_16 : decode cX9_loafOf 16 = .ok (.isub, 1) := by decide +kernel
theorem dX9_loafOf_17 : decode cX9_loafOf 17 = .ok (.invokevirtual 320, 3) := by decide +kernel
theorem dX9_loafOf_20 : decode cX9_loafOf 20 = .ok (.ifCond .eq 7, 3) := by decide +kernel
theorem dX9_loafOf_23 : decode cX9_loafOf 23 = .ok (.iconst 0, 1) := by decide +kernel
theorem dX9_loafOf_24 : decode cX9_loafOf 24 = .ok (.goto 9, 3) := by decide +kernel
theorem dX9_loafOf_27 : decode cX9_loafOf 27 = .ok (.aload_n 0, 1) := by decide +kernel
theorem dX9_loafOf_28 : decode cX9_loafOf 28 = .ok (.getfield 32, 3) := by decide +kernel
theorem dX9_loafOf_31 : decode cX9_loafOf 31 = .ok (.iload_n 2, 1) := by decide +kernel
theorem dX9_loafOf_32 : decode cX9_loafOf 32 = .ok (.iaload, 1) := by decide +kernel
theorem dX9_loafOf_33 : decode cX9_loafOf 33 = .ok (.ireturn, 1) := by decide +kernel
theorem dX9_gain_0 : decode cX9_gain 0 = .ok (.aload_n 0, 1) := by decide +kernel
theorem dX9_gain_1 : decode cX9_gain 1 = .ok (.iload_n 1, 1) := by decide +kernel
theorem dX9_gain_2 : decode cX9_gain 2 = .ok (.invokevirtual 341, 3) := by decide +kernel
theorem dX9_gain_5 : decode cX9_gain 5 = .ok (.ifCond .eq 5, 3) := by decide +kernel
theorem dX9_gain_8 : decode cX9_gain 8 = .ok (.iconst 0, 1) := by decide +kernel
theorem dX9_gain_9 : decode cX9_gain 9 = .ok (.ireturn, 1) := by decide +kernel
theorem dX9_gain_10 : decode cX9_gain 10 = .ok (.iconst 0, 1) := by decide +kernel
theorem dX9_gain_11 : decode cX9_gain 11 = .ok (.istore_n 2, 1) := by decide +kernel
theorem dX9_gain_12 : decode cX9_gain 12 = .ok (.iconst 0, 1) := by decide +kernel
theorem dX9_gain_13 : decode cX9_gain 13 = .ok (.istore_n 3, 1) := by decide +kernel
theorem dX9_gain_14 : decode cX9_gain 14 = .ok (.iload_n 3, 1) := by decide +kernel
theorem dX9_gain_15 : decode cX9_gain 15 = .ok (.aload_n 0, 1) := by decide +kernel
theorem dX9_gain_16 : decode cX9_gain 16 = .ok (.getfield 133, 3) := by decide +kernel
theorem dX9_gain_19 : decode cX9_gain 19 = .ok (.if_icmp .ge 35, 3) := by decide +kernel
theorem dX9_gain_22 : decode cX9_gain 22 = .ok (.iload_n 2, 1) := by decide +kernel
theorem dX9_gain_23 : decode cX9_gain 23 = .ok (.aload_n 0, 1) := by decide +kernel
theorem dX9_gain_24 : decode cX9_gain 24 = .ok (.aload_n 0, 1) := by decide +kernel
theorem dX9_gain_25 : decode cX9_gain 25 = .ok (.getfield 7, 3) := by decide +kernel
theorem dX9_gain_28 : decode cX9_gain 28 = .ok (.iload_n 3, 1) := by decide +kernel
theorem dX9_gain_29 : decode cX9_gain 29 = .ok (.invokevirtual 136, 3) := by decide +kernel
theorem dX9_gain_32 : decode cX9_gain 32 = .ok (.aload_n 0, 1) := by decide +kernel
theorem dX9_gain_33 : decode cX9_gain 33 = .ok (.getfield 7, 3) := by decide +kernel
theorem dX9_gain_36 : decode cX9_gain 36 = .ok (.aload_n 0, 1) := by decide +kernel
theorem dX9_gain_37 : decode cX9_gain 37 = .ok (.getfield 32, 3) := by decide +kernel
theorem dX9_gain_40 : decode cX9_gain 40 = .ok (.iload_n 3, 1) := by decide +kernel
theorem dX9_gain_41 : decode cX9_gain 41 = .ok (.iaload, 1) := by decide +kernel
theorem dX9_gain_42 : decode cX9_gain 42 = .ok (.invokestatic 123, 3) := by decide +kernel
theorem dX9_gain_45 : decode cX9_gain 45 = .ok (.isub, 1) := by decide +kernel
theorem dX9_gain_46 : decode cX9_gain 46 = .ok (.iadd, 1) := by decide +kernel
theorem dX9_gain_47 : decode cX9_gain 47 = .ok (.istore_n 2, 1) := by decide +kernel
theorem dX9_gain_48 : decode cX9_gain 48 = .ok (.iinc 3 1, 3) := by decide +kernel
theorem dX9_gain_51 : decode cX9_gain 51 = .ok (.goto (-37), 3) := by decide +kernel
theorem dX9_gain_54 : decode cX9_gain 54 = .ok (.iload_n 2, 1) := by decide +kernel
theorem dX9_gain_55 : decode cX9_gain 55 = .ok (.ireturn, 1) := by decide +kernel
theorem dX9_eventCount_0 : decode cX9_eventCount 0 = .ok (.aload_n 0, 1) := by decide +kernel
theorem dX9_eventCount_1 : decode cX9_eventCount 1 = .ok (.iconst 0, 1) := by decide +kernel
theorem dX9_eventCount_2 : decode cX9_eventCount 2 = .ok (.putfield 75, 3) := by decide +kernel
theorem dX9_eventCount_5 : decode cX9_eventCount 5 = .ok (.aload_n 0, 1) := by decide +kernel
theorem dX9_eventCount_6 : decode cX9_eventCount 6 = .ok (.getfield 7, 3) := by decide +kernel
theorem dX9_eventCount_9 : decode cX9_eventCount 9 = .ok (.bipush 7, 2) := by decide +kernel
theorem dX9_eventCount_11 : decode cX9_eventCount 11 = .ok (.iaload, 1) := by decide +kernel
theorem dX9_eventCount_12 : decode cX9_eventCount 12 = .ok (.ireturn, 1) := by decide +kernel
theorem dX9_eventType_0 : decode cX9_eventType 0 = .ok (.aload_n 0, 1) := by decide +kernel
theorem dX9_eventType_1 : decode cX9_eventType 1 = .ok (.iload_n 1, 1) := by decide +kernel
theorem dX9_eventType_2 : decode cX9_eventType 2 = .ok (.invokevirtual 344, 3) := by decide +kernel
theorem dX9_eventType_5 : decode cX9_eventType 5 = .ok (.ifCond .eq 7, 3) := by decide +kernel
theorem dX9_eventType_8 : decode cX9_eventType 8 = .ok (.iconst 0, 1) := by decide +kernel
theorem dX9_eventType_9 : decode cX9_eventType 9 = .ok (.goto 14, 3) := by decide +kernel
theorem dX9_eventType_12 : decode cX9_eventType 12 = .ok (.aload_n 0, 1) := by decide +kernel
theorem dX9_eventType_13 : decode cX9_eventType 13 = .ok (.getfield 7, 3) := by decide +kernel
theorem dX9_eventType_16 : decode cX9_eventType 16 = .ok (.iload_n 1, 1) := by decide +kernel
theorem dX9_eventType_17 : decode cX9_eventType 17 = .ok (.invokestatic 82, 3) := by decide +kernel
theorem dX9_eventType_20 : decode cX9_eventType 20 = .ok (.iconst 0, 1) := by decide +kernel
theorem dX9_eventType_21 : decode cX9_eventType 21 = .ok (.iadd, 1) := by decide +kernel
theorem dX9_eventType_22 : decode cX9_eventType 22 = .ok (.iaload, 1) := by decide +kernel
theorem dX9_eventType_23 : decode cX9_eventType 23 = .ok (.ireturn, 1) := by decide +kernel
theorem dX9_eventFirst_0 : decode cX9_eventFirst 0 = .ok (.aload_n 0, 1) := by decide +kernel
theorem dX9_eventFirst_1 : decode cX9_eventFirst 1 = .ok (.iload_n 1, 1) := by decide +kernel
theorem dX9_eventFirst_2 : decode cX9_eventFirst 2 = .ok (.invokevirtual 344, 3) := by decide +kernel
theorem dX9_eventFirst_5 : decode cX9_eventFirst 5 = .ok (.ifCond .eq 7, 3) := by decide +kernel
theorem dX9_eventFirst_8 : decode cX9_eventFirst 8 = .ok (.iconst 0, 1) := by decide +kernel
theorem dX9_eventFirst_9 : decode cX9_eventFirst 9 = .ok (.goto 14, 3) := by decide +kernel
theorem dX9_eventFirst_12 : decode cX9_eventFirst 12 = .ok (.aload_n 0, 1) := by decide +kernel
theorem dX9_eventFirst_13 : decode cX9_eventFirst 13 = .ok (.getfield 7, 3) := by decide +kernel
theorem dX9_eventFirst_16 : decode cX9_eventFirst 16 = .ok (.iload_n 1, 1) := by decide +kernel
theorem dX9_eventFirst_17 : decode cX9_eventFirst 17 = .ok (.invokestatic 82, 3) := by decide +kernel
theorem dX9_eventFirst_20 : decode cX9_eventFirst 20 = .ok (.iconst 1, 1) := by decide +kernel
theorem dX9_eventFirst_21 : decode cX9_eventFirst 21 = .ok (.iadd, 1) := by decide +kernel
theorem dX9_eventFirst_22 : decode cX9_eventFirst 22 = .ok (.iaload, 1) := by decide +kernel
theorem dX9_eventFirst_23 : decode cX9_eventFirst 23 = .ok (.ireturn, 1) := by decide +kernel
theorem dX9_eventSecond_0 : decode cX9_eventSecond 0 = .ok (.aload_n 0, 1) := by decide +kernel
theorem dX9_eventSecond_1 : decode cX9_eventSecond 1 = .ok (.iload_n 1, 1) := by decide +kernel
theorem dX9_eventSecond_2 : decode cX9_eventSecond 2 = .ok (.invokevirtual 344, 3) := by decide +kernel
theorem dX9_eventSecond_5 : decode cX9_eventSecond 5 = .ok (.ifCond .eq 7, 3) := by decide +kernel
theorem dX9_eventSecond_8 : decode cX9_eventSecond 8 = .ok (.iconst 0, 1) := by decide +kernel
theorem dX9_eventSecond_9 : decode cX9_eventSecond 9 = .ok (.goto 14, 3) := by decide +kernel
theorem dX9_eventSecond_12 : decode cX9_eventSecond 12 = .ok (.aload_n 0, 1) := by decide +kernel
theorem dX9_eventSecond_13 : decode cX9_eventSecond 13 = .ok (.getfield 7, 3) := by decide +kernel
theorem dX9_eventSecond_16 : decode cX9_eventSecond 16 = .ok (.iload_n 1, 1) := by decide +kernel
theorem dX9_eventSecond_17 : decode cX9_eventSecond 17 = .ok (.invokestatic 82, 3) := by decide +kernel
theorem dX9_eventSecond_20 : decode cX9_eventSecond 20 = .ok (.iconst 2, 1) := by decide +kernel
theorem dX9_eventSecond_21 : decode cX9_eventSecond 21 = .ok (.iadd, 1) := by decide +kernel
theorem dX9_eventSecond_22 : decode cX9_eventSecond 22 = .ok (.iaload, 1) := by decide +kernel
theorem dX9_eventSecond_23 : decode cX9_eventSecond 23 = .ok (.ireturn, 1) := by decide +kernel
theorem dX9_moneyDifference_0 : decode cX9_moneyDifference 0 = .ok (.aload_n 0, 1) := by decide +kernel
theorem dX9_moneyDifference_1 : decode cX9_moneyDifference 1 = .ok (.iconst 0, 1) := by decide +kernel
theorem dX9_moneyDifference_2 : decode cX9_moneyDifference 2 = .ok (.putfield 75, 3) := by decide +kernel
theorem dX9_moneyDifference_5 : decode cX9_moneyDifference 5 = .ok (.aload_n 0, 1) := by decide +kernel
theorem dX9_moneyDifference_6 : decode cX9_moneyDifference 6 = .ok (.getfield 7, 3) := by decide +kernel
theorem dX9_moneyDifference_9 : decode cX9_moneyDifference 9 = .ok (.bipush 8, 2) := by decide +kernel
theorem dX9_moneyDifference_11 : decode cX9_moneyDifference 11 = .ok (.iaload, 1) := by decide +kernel
theorem dX9_moneyDifference_12 : decode cX9_moneyDifference 12 = .ok (.aload_n 0, 1) := by decide +kernel
theorem dX9_moneyDifference_13 : decode cX9_moneyDifference 13 = .ok (.getfield 7, 3) := by decide +kernel
theorem dX9_moneyDifference_16 : decode cX9_moneyDifference 16 = .ok (.bipush 9, 2) := by decide +kernel
theorem dX9_moneyDifference_18 : decode cX9_moneyDifference 18 = .ok (.iaload, 1) := by decide +kernel
theorem dX9_moneyDifference_19 : decode cX9_moneyDifference 19 = .ok (.isub, 1) := by decide +kernel
theorem dX9_moneyDifference_20 : decode cX9_moneyDifference 20 = .ok (.istore_n 1, 1) := by decide +kernel
theorem dX9_moneyDifference_21 : decode cX9_moneyDifference 21 = .ok (.iconst 0, 1) := by decide +kernel
theorem dX9_moneyDifference_22 : decode cX9_moneyDifference 22 = .ok (.istore_n 2, 1) := by decide +kernel
theorem dX9_moneyDifference_23 : decode cX9_moneyDifference 23 = .ok (.iload_n 2, 1) := by decide +kernel
theorem dX9_moneyDifference_24 : decode cX9_moneyDifference 24 = .ok (.aload_n 0, 1) := by decide +kernel
theorem dX9_moneyDifference_25 : decode cX9_moneyDifference 25 = .ok (.getfield 7, 3) := by decide +kernel
theorem dX9_moneyDifference_28 : decode cX9_moneyDifference 28 = .ok (.iconst 2, 1) := by decide +kernel
theorem dX9_moneyDifference_29 : decode cX9_moneyDifference 29 = .ok (.iaload, 1) := by decide +kernel
theorem dX9_moneyDifference_30 : decode cX9_moneyDifference 30 = .ok (.if_icmp .ge 23, 3) := by decide +kernel
theorem dX9_moneyDifference_33 : decode cX9_moneyDifference 33 = .ok (.iload_n 1, 1) := by decide +kernel
theorem dX9_moneyDifference_34 : decode cX9_moneyDifference 34 = .ok (.aload_n 0, 1) := by decide +kernel
theorem dX9_moneyDifference_35 : decode cX9_moneyDifference 35 = .ok (.getfield 7, 3) := by decide +kernel
theorem dX9_moneyDifference_38 : decode cX9_moneyDifference 38 = .ok (.iload_n 2, 1) := by decide +kernel
theorem dX9_moneyDifference_39 : decode cX9_moneyDifference 39 = .ok (.invokestatic 111, 3) := by decide +kernel
theorem dX9_moneyDifference_42 : decode cX9_moneyDifference 42 = .ok (.iconst 4, 1) := by decide +kernel
theorem dX9_moneyDifference_43 : decode cX9_moneyDifference 43 = .ok (.iadd, 1) := by decide +kernel
theorem dX9_moneyDifference_44 : decode cX9_moneyDifference 44 = .ok (.iaload, 1) := by decide +kernel
theorem dX9_moneyDifference_45 : decode cX9_moneyDifference 45 = .ok (.isub, 1) := by decide +kernel
theorem dX9_moneyDifference_46 : decode cX9_moneyDifference 46 = .ok (.istore_n 1, 1) := by decide +kernel
theorem dX9_moneyDifference_47 : decode cX9_moneyDifference 47 = .ok (.iinc 2 1, 3) := by decide +kernel
theorem dX9_moneyDifference_50 : decode cX9_moneyDifference 50 = .ok (.goto (-27), 3) := by decide +kernel
theorem dX9_moneyDifference_53 : decode cX9_moneyDifference 53 = .ok (.iconst 0, 1) := by decide +kernel
theorem dX9_moneyDifference_54 : decode cX9_moneyDifference 54 = .ok (.istore_n 2, 1) := by decide +kernel
theorem dX9_moneyDifference_55 : decode cX9_moneyDifference 55 = .ok (.iload_n 2, 1) := by decide +kernel
theorem dX9_moneyDifference_56 : decode cX9_moneyDifference 56 = .ok (.aload_n 0, 1) := by decide +kernel
theorem dX9_moneyDifference_57 : decode cX9_moneyDifference 57 = .ok (.getfield 7, 3) := by decide +kernel
theorem dX9_moneyDifference_60 : decode cX9_moneyDifference 60 = .ok (.iconst 1, 1) := by decide +kernel
theorem dX9_moneyDifference_61 : decode cX9_moneyDifference 61 = .ok (.iaload, 1) := by decide +kernel
theorem dX9_moneyDifference_62 : decode cX9_moneyDifference 62 = .ok (.if_icmp .ge 23, 3) := by decide +kernel
theorem dX9_moneyDifference_65 : decode cX9_moneyDifference 65 = .ok (.iload_n 1, 1) := by decide +kernel
theorem dX9_moneyDifference_66 : decode cX9_moneyDifference 66 = .ok (.aload_n 0, 1) := by decide +kernel
theorem dX9_moneyDifference_67 : decode cX9_moneyDifference 67 = .ok (.getfield 7, 3) := by decide +kernel
theorem dX9_moneyDifference_70 : decode cX9_moneyDifference 70 = .ok (.iload_n 2, 1) := by decide +kernel
theorem dX9_moneyDifference_71 : decode cX9_moneyDifference 71 = .ok (.invokestatic 100, 3) := by decide +kernel
theorem dX9_moneyDifference_74 : decode cX9_moneyDifference 74 = .ok (.iconst 5, 1) := by decide +kernel
theorem dX9_moneyDifference_75 : decode cX9_moneyDifference 75 = .ok (.iadd, 1) := by decide +kernel
theorem dX9_moneyDifference_76 : decode cX9_moneyDifference 76 = .ok (.iaload, 1) := by decide +kernel
theorem dX9_moneyDifference_77 : decode cX9_moneyDifference 77 = .ok (.isub, 1) := by decide +kernel
theorem dX9_moneyDifference_78 : decode cX9_moneyDifference 78 = .ok (.istore_n 1, 1) := by decide +kernel
theorem dX9_moneyDifference_79 : decode cX9_moneyDifference 79 = .ok (.iinc 2 1, 3) := by decide +kernel
theorem dX9_moneyDifference_82 : decode cX9_moneyDifference 82 = .ok (.goto (-27), 3) := by decide +kernel
theorem dX9_moneyDifference_85 : decode cX9_moneyDifference 85 = .ok (.iload_n 1, 1) := by decide +kernel
theorem dX9_moneyDifference_86 : decode cX9_moneyDifference 86 = .ok (.ireturn, 1) := by decide +kernel
theorem dX9_loafDifference_0 : decode cX9_loafDifference 0 = .ok (.aload_n 0, 1) := by decide +kernel
theorem dX9_loafDifference_1 : decode cX9_loafDifference 1 = .ok (.iconst 0, 1) := by decide +kernel
theorem dX9_loafDifference_2 : decode cX9_loafDifference 2 = .ok (.putfield 75, 3) := by decide +kernel
theorem dX9_loafDifference_5 : decode cX9_loafDifference 5 = .ok (.aload_n 0, 1) := by decide +kernel
theorem dX9_loafDifference_6 : decode cX9_loafDifference 6 = .ok (.getfield 7, 3) := by decide +kernel
theorem dX9_loafDifference_9 : decode cX9_loafDifference 9 = .ok (.bipush 10, 2) := by decide +kernel
theorem dX9_loafDifference_11 : decode cX9_loafDifference 11 = .ok (.iaload, 1) := by decide +kernel
theorem dX9_loafDifference_12 : decode cX9_loafDifference 12 = .ok (.aload_n 0, 1) := by decide +kernel
theorem dX9_loafDifference_13 : decode cX9_loafDifference 13 = .ok (.getfield 7, 3) := by decide +kernel
theorem dX9_loafDifference_16 : decode cX9_loafDifference 16 = .ok (.bipush 11, 2) := by decide +kernel
theorem dX9_loafDifference_18 : decode cX9_loafDifference 18 = .ok (.iaload, 1) := by decide +kernel
theorem dX9_loafDifference_19 : decode cX9_loafDifference 19 = .ok (.isub, 1) := by decide +kernel
theorem dX9_loafDifference_20 : decode cX9_loafDifference 20 = .ok (.aload_n 0, 1) := by decide +kernel
theorem dX9_loafDifference_21 : decode cX9_loafDifference 21 = .ok (.getfield 7, 3) := by decide +kernel
theorem dX9_loafDifference_24 : decode cX9_loafDifference 24 = .ok (.bipush 12, 2) := by decide +kernel
theorem dX9_loafDifference_26 : decode cX9_loafDifference 26 = .ok (.iaload, 1) := by decide +kernel
theorem dX9_loafDifference_27 : decode cX9_loafDifference 27 = .ok (.isub, 1) := by decide +kernel
theorem dX9_loafDifference_28 : decode cX9_loafDifference 28 = .ok (.aload_n 0, 1) := by decide +kernel
theorem dX9_loafDifference_29 : decode cX9_loafDifference 29 = .ok (.getfield 7, 3) := by decide +kernel
theorem dX9_loafDifference_32 : decode cX9_loafDifference 32 = .ok (.iconst 3, 1) := by decide +kernel
theorem dX9_loafDifference_33 : decode cX9_loafDifference 33 = .ok (.iaload, 1) := by decide +kernel
theorem dX9_loafDifference_34 : decode cX9_loafDifference 34 = .ok (.isub, 1) := by decide +kernel
theorem dX9_loafDifference_35 : decode cX9_loafDifference 35 = .ok (.ireturn, 1) := by decide +kernel
theorem dX9_tries_0 : decode cX9_tries 0 = .ok (.aload_n 0, 1) := by decide +kernel
theorem dX9_tries_1 : decode cX9_tries 1 = .ok (.getfield 7, 3) := by decide +kernel
theorem dX9_tries_4 : decode cX9_tries 4 = .ok (.iconst 0, 1) := by decide +kernel
theorem dX9_tries_5 : decode cX9_tries 5 = .ok (.aload_n 0, 1) := by decide +kernel
theorem dX9_tries_6 : decode cX9_tries 6 = .ok (.getfield 16, 3) := by decide +kernel
theorem dX9_tries_9 : decode cX9_tries 9 = .ok (.iconst 0, 1) := by decide +kernel
theorem dX9_tries_10 : decode cX9_tries 10 = .ok (.invokestatic 61, 3) := by decide +kernel
theorem dX9_tries_13 : decode cX9_tries 13 = .ok (.aload_n 0, 1) := by decide +kernel
theorem dX9_tries_14 : decode cX9_tries 14 = .ok (.aload_n 0, 1) := by decide +kernel
theorem dX9_tries_15 : decode cX9_tries 15 = .ok (.getfield 16, 3) := by decide +kernel
theorem dX9_tries_18 : decode cX9_tries 18 = .ok (.iload_n 1, 1) := by decide +kernel
theorem dX9_tries_19 : decode cX9_tries 19 = .ok (.invokevirtual 267, 3) := by decide +kernel
theorem dX9_tries_22 : decode cX9_tries 22 = .ok (.return_, 1) := by decide +kernel
theorem dX9_sparrowsAfter_0 : decode cX9_sparrowsAfter 0 = .ok (.aload_n 0, 1) := by decide +kernel
theorem dX9_sparrowsAfter_1 : decode cX9_sparrowsAfter 1 = .ok (.iload_n 1, 1) := by decide +kernel
theorem dX9_sparrowsAfter_2 : decode cX9_sparrowsAfter 2 = .ok (.iconst 0, 1) := by decide +kernel
theorem dX9_sparrowsAfter_3 : decode cX9_sparrowsAfter 3 = .ok (.bipush 100, 2) := by decide +kernel
theorem dX9_sparrowsAfter_5 : decode cX9_sparrowsAfter 5 = .ok (.invokevirtual 176, 3) := by decide +kernel
theorem dX9_sparrowsAfter_8 : decode cX9_sparrowsAfter 8 = .ok (.ifCond .eq 5, 3) := by decide +kernel
theorem dX9_sparrowsAfter_11 : decode cX9_sparrowsAfter 11 = .ok (.iconst 0, 1) := by decide +kernel
theorem dX9_sparrowsAfter_12 : decode cX9_sparrowsAfter 12 = .ok (.ireturn, 1) := by decide +kernel
theorem dX9_sparrowsAfter_13 : decode cX9_sparrowsAfter 13 = .ok (.aload_n 0, 1) := by decide +kernel
theorem dX9_sparrowsAfter_14 : decode cX9_sparrowsAfter 14 = .ok (.iload_n 1, 1) := by decide +kernel
theorem dX9_sparrowsAfter_15 : decode cX9_sparrowsAfter 15 = .ok (.invokevirtual 347, 3) := by decide +kernel
theorem dX9_sparrowsAfter_18 : decode cX9_sparrowsAfter 18 = .ok (.aload_n 0, 1) := by decide +kernel
theorem dX9_sparrowsAfter_19 : decode cX9_sparrowsAfter 19 = .ok (.getfield 16, 3) := by decide +kernel
theorem dX9_sparrowsAfter_22 : decode cX9_sparrowsAfter 22 = .ok (.iconst 5, 1) := by decide +kernel
theorem dX9_sparrowsAfter_23 : decode cX9_sparrowsAfter 23 = .ok (.iaload, 1) := by decide +kernel
theorem dX9_sparrowsAfter_24 : decode cX9_sparrowsAfter 24 = .ok (.ireturn, 1) := by decide +kernel
theorem dX9_loavesAfter_0 : decode cX9_loavesAfter 0 = .ok (.aload_n 0, 1) := by decide +kernel
theorem dX9_loavesAfter_1 : decode cX9_loavesAfter 1 = .ok (.iload_n 1, 1) := by decide +kernel
theorem dX9_loavesAfter_2 : decode cX9_loavesAfter 2 = .ok (.iconst 0, 1) := by decide +kernel
theorem dX9_loavesAfter_3 : decode cX9_loavesAfter 3 = .ok (.bipush 100, 2) := by decide +kernel
theorem dX9_loavesAfter_5 : decode cX9_loavesAfter 5 = .ok (.invokevirtual 176, 3) := by decide +kernel
theorem dX9_loavesAfter_8 : decode cX9_loavesAfter 8 = .ok (.ifCond .eq 5, 3) := by decide +kernel
theorem dX9_loavesAfter_11 : decode cX9_loavesAfter 11 = .ok (.iconst 0, 1) := by decide +kernel
theorem dX9_loavesAfter_12 : decode cX9_loavesAfter 12 = .ok (.ireturn, 1) := by decide +kernel
theorem dX9_loavesAfter_13 : decode cX9_loavesAfter 13 = .ok (.aload_n 0, 1) := by decide +kernel
theorem dX9_loavesAfter_14 : decode cX9_loavesAfter 14 = .ok (.iload_n 1, 1) := by decide +kernel
theorem dX9_loavesAfter_15 : decode cX9_loavesAfter 15 = .ok (.invokevirtual 347, 3) := by decide +kernel
theorem dX9_loavesAfter_18 : decode cX9_loavesAfter 18 = .ok (.aload_n 0, 1) := by decide +kernel
theorem dX9_loavesAfter_19 : decode cX9_loavesAfter 19 = .ok (.getfield 16, 3) := by decide +kernel
theorem dX9_loavesAfter_22 : decode cX9_loavesAfter 22 = .ok (.iconst 3, 1) := by decide +kernel
theorem dX9_loavesAfter_23 : decode cX9_loavesAfter 23 = .ok (.iaload, 1) := by decide +kernel
theorem dX9_loavesAfter_24 : decode cX9_loavesAfter 24 = .ok (.ireturn, 1) := by decide +kernel
theorem dX9_tradesAfter_0 : decode cX9_tradesAfter 0 = .ok (.aload_n 0, 1) := by decide +kernel
theorem dX9_tradesAfter_1 : decode cX9_tradesAfter 1 = .ok (.iload_n 1, 1) := by decide +kernel
theorem dX9_tradesAfter_2 : decode cX9_tradesAfter 2 = .ok (.invokevirtual 329, 3) := by decide +kernel
theorem dX9_tradesAfter_5 : decode cX9_tradesAfter 5 = .ok (.ifCond .ne 14, 3) := by decide +kernel
theorem dX9_tradesAfter_8 : decode cX9_tradesAfter 8 = .ok (.aload_n 0, 1) := by decide +kernel
theorem dX9_tradesAfter_9 : decode cX9_tradesAfter 9 = .ok (.iload_n 2, 1) := by decide +kernel
theorem dX9_tradesAfter_10 : decode cX9_tradesAfter 10 = .ok (.iconst 0, 1) := by decide +kernel
theorem dX9_tradesAfter_11 : decode cX9_tradesAfter 11 = .ok (.bipush 100, 2) := by decide +kernel
theorem dX9_tradesAfter_13 : decode cX9_tradesAfter 13 = .ok (.invokevirtual 320, 3) := by decide +kernel
theorem dX9_tradesAfter_16 : decode cX9_tradesAfter 16 = .ok (.ifCond .eq 5, 3) := by decide +kernel
theorem dX9_tradesAfter_19 : decode cX9_tradesAfter 19 = .ok (.iconst 0, 1) := by decide +kernel
theorem dX9_tradesAfter_20 : decode cX9_tradesAfter 20 = .ok (.ireturn, 1) := by decide +kernel
theorem dX9_tradesAfter_21 : decode cX9_tradesAfter 21 = .ok (.aload_n 0, 1) := by decide +kernel
theorem dX9_tradesAfter_22 : decode cX9_tradesAfter 22 = .ok (.iload_n 2, 1) := by decide +kernel
theorem dX9_tradesAfter_23 : decode cX9_tradesAfter 23 = .ok (.invokevirtual 347, 3) := by decide +kernel
theorem dX9_tradesAfter_26 : decode cX9_tradesAfter 26 = .ok (.aload_n 0, 1) := by decide +kernel
theorem dX9_tradesAfter_27 : decode cX9_tradesAfter 27 = .ok (.aload_n 0, 1) := by decide +kernel
theorem dX9_tradesAfter_28 : decode cX9_tradesAfter 28 = .ok (.getfield 16, 3) := by decide +kernel
theorem dX9_tradesAfter_31 : decode cX9_tradesAfter 31 = .ok (.iload_n 1, 1) := by decide +kernel
theorem dX9_tradesAfter_32 : decode cX9_tradesAfter 32 = .ok (.invokevirtual 142, 3) := by decide +kernel
theorem dX9_tradesAfter_35 : decode cX9_tradesAfter 35 = .ok (.aload_n 0, 1) := by decide +kernel
theorem dX9_tradesAfter_36 : decode cX9_tradesAfter 36 = .ok (.getfield 133, 3) := by decide +kernel
theorem dX9_tradesAfter_39 : decode cX9_tradesAfter 39 = .ok (.ireturn, 1) := by decide +kernel
theorem dX9_bestHour_0 : decode cX9_bestHour 0 = .ok (.aload_n 0, 1) := by decide +kernel
theorem dX9_bestHour_1 : decode cX9_bestHour 1 = .ok (.iload_n 1, 1) := by decide +kernel
theorem dX9_bestHour_2 : decode cX9_bestHour 2 = .ok (.invokevirtual 329, 3) := by decide +kernel
theorem dX9_bestHour_5 : decode cX9_bestHour 5 = .ok (.ifCond .eq 5, 3) := by decide +kernel
theorem dX9_bestHour_8 : decode cX9_bestHour 8 = .ok (.iconst 0, 1) := by decide +kernel
theorem dX9_bestHour_9 : decode cX9_bestHour 9 = .ok (.ireturn, 1) := by decide +kernel
theorem dX9_bestHour_10 : decode cX9_bestHour 10 = .ok (.iconst 0, 1) := by decide +kernel
theorem dX9_bestHour_11 : decode cX9_bestHour 11 = .ok (.istore_n 2, 1) := by decide +kernel
theorem dX9_bestHour_12 : decode cX9_bestHour 12 = .ok (.iconst 0, 1) := by decide +kernel
theorem dX9_bestHour_13 : decode cX9_bestHour 13 = .ok (.istore_n 3, 1) := by decide +kernel
theorem dX9_bestHour_14 : decode cX9_bestHour 14 = .ok (.iconst 0, 1) := by decide +kernel
theorem dX9_bestHour_15 : decode cX9_bestHour 15 = .ok (.istore 4, 2) := by decide +kernel
theorem dX9_bestHour_17 : decode cX9_bestHour 17 = .ok (.iload 4, 2) := by decide +kernel
theorem dX9_bestHour_19 : decode cX9_bestHour 19 = .ok (.bipush 24, 2) := by decide +kernel
theorem dX9_bestHour_21 : decode cX9_bestHour 21 = .ok (.if_icmp .gt 72, 3) := by decide +kernel
theorem dX9_bestHour_24 : decode cX9_bestHour 24 = .ok (.aload_n 0, 1) := by decide +kernel
theorem dX9_bestHour_25 : decode cX9_bestHour 25 = .ok (.iload 4, 2) := by decide +kernel
theorem dX9_bestHour_27 : decode cX9_bestHour 27 = .ok (.invokevirtual 347, 3) := by decide +kernel
theorem dX9_bestHour_30 : decode cX9_bestHour 30 = .ok (.aload_n 0, 1) := by decide +kernel
theorem dX9_bestHour_31 : decode cX9_bestHour 31 = .ok (.aload_n 0, 1) := by decide +kernel
theorem dX9_bestHour_32 : decode cX9_bestHour 32 = .ok (.getfield 16, 3) := by decide +kernel
theorem dX9_bestHour_35 : decode cX9_bestHour 35 = .ok (.iload_n 1, 1) := by decide +kernel
theorem dX9_bestHour_36 : decode cX9_bestHour 36 = .ok (.invokevirtual 142, 3) := by decide +kernel
theorem dX9_bestHour_39 : decode cX9_bestHour 39 = .ok (.aload_n 0, 1) := by decide +kernel
theorem dX9_bestHour_40 : decode cX9_bestHour 40 = .ok (.getfield 133, 3) := by decide +kernel
theorem dX9_bestHour_43 : decode cX9_bestHour 43 = .ok (.ifCond .ne 7, 3) := by decide +kernel
theorem dX9_bestHour_46 : decode cX9_bestHour 46 = .ok (.iconst 0, 1) := by decide +kernel
theorem dX9_bestHour_47 : decode cX9_bestHour 47 = .ok (.goto 12, 3) := by decide +kernel
theorem dX9_bestHour_50 : decode cX9_bestHour 50 = .ok (.aload_n 0, 1) := by decide +kernel
theorem dX9_bestHour_51 : decode cX9_bestHour 51 = .ok (.getfield 133, 3) := by decide +kernel
theorem dX9_bestHour_54 : decode cX9_bestHour 54 = .ok (.aload_n 0, 1) := by decide +kernel
theorem dX9_bestHour_55 : decode cX9_bestHour 55 = .ok (.getfield 139, 3) := by decide +kernel
theorem dX9_bestHour_58 : decode cX9_bestHour 58 = .ok (.imul, 1) := by decide +kernel
theorem dX9_bestHour_59 : decode cX9_bestHour 59 = .ok (.istore 5, 2) := by decide +kernel
theorem dX9_bestHour_61 : decode cX9_bestHour 61 = .ok (.iload 5, 2) := by decide +kernel
theorem dX9_bestHour_63 : decode cX9_bestHour 63 = .ok (.iload_n 3, 1) := by decide +kernel
theorem dX9_bestHour_64 : decode cX9_bestHour 64 = .ok (.if_icmp .le 8, 3) := by decide +kernel
theorem dX9_bestHour_67 : decode cX9_bestHour 67 = .ok (.iload 4, 2) := by decide +kernel
theorem dX9_bestHour_69 : decode cX9_bestHour 69 = .ok (.goto 4, 3) := by decide +kernel
theorem dX9_bestHour_72 : decode cX9_bestHour 72 = .ok (.iload_n 2, 1) := by decide +kernel
theorem dX9_bestHour_73 : decode cX9_bestHour 73 = .ok (.istore_n 2, 1) := by decide +kernel
theorem dX9_bestHour_74 : decode cX9_bestHour 74 = .ok (.iload 5, 2) := by decide +kernel
theorem dX9_bestHour_76 : decode cX9_bestHour 76 = .ok (.iload_n 3, 1) := by decide +kernel
theorem dX9_bestHour_77 : decode cX9_bestHour 77 = .ok (.if_icmp .le 8, 3) := by decide +kernel
theorem dX9_bestHour_80 : decode cX9_bestHour 80 = .ok (.iload 5, 2) := by decide +kernel
theorem dX9_bestHour_82 : decode cX9_bestHour 82 = .ok (.goto 4, 3) := by decide +kernel
theorem dX9_bestHour_85 : decode cX9_bestHour 85 = .ok (.iload_n 3, 1) := by decide +kernel
theorem dX9_bestHour_86 : decode cX9_bestHour 86 = .ok (.istore_n 3, 1) := by decide +kernel
theorem dX9_bestHour_87 : decode cX9_bestHour 87 = .ok (.iinc 4 1, 3) := by decide +kernel
theorem dX9_bestHour_90 : decode cX9_bestHour 90 = .ok (.goto (-73), 3) := by decide +kernel
theorem dX9_bestHour_93 : decode cX9_bestHour 93 = .ok (.iload_n 2, 1) := by decide +kernel
theorem dX9_bestHour_94 : decode cX9_bestHour 94 = .ok (.ireturn, 1) := by decide +kernel
theorem dX9_meanAge_0 : decode cX9_meanAge 0 = .ok (.aload_n 0, 1) := by decide +kernel
theorem dX9_meanAge_1 : decode cX9_meanAge 1 = .ok (.iconst 0, 1) := by decide +kernel
theorem dX9_meanAge_2 : decode cX9_meanAge 2 = .ok (.putfield 75, 3) := by decide +kernel
theorem dX9_meanAge_5 : decode cX9_meanAge 5 = .ok (.iconst 0, 1) := by decide +kernel
theorem dX9_meanAge_6 : decode cX9_meanAge 6 = .ok (.istore_n 1, 1) := by decide +kernel
theorem dX9_meanAge_7 : decode cX9_meanAge 7 = .ok (.iconst 0, 1) := by decide +kernel
theorem dX9_meanAge_8 : decode cX9_meanAge 8 = .ok (.istore_n 2, 1) := by decide +kernel
theorem dX9_meanAge_9 : decode cX9_meanAge 9 = .ok (.iload_n 2, 1) := by decide +kernel
theorem dX9_meanAge_10 : decode cX9_meanAge 10 = .ok (.aload_n 0, 1) := by decide +kernel
theorem dX9_meanAge_11 : decode cX9_meanAge 11 = .ok (.getfield 7, 3) := by decide +kernel
theorem dX9_meanAge_14 : decode cX9_meanAge 14 = .ok (.iconst 3, 1) := by decide +kernel
theorem dX9_meanAge_15 : decode cX9_meanAge 15 = .ok (.iaload, 1) := by decide +kernel
theorem dX9_meanAge_16 : decode cX9_meanAge 16 = .ok (.if_icmp .ge 20, 3) := by decide +kernel
theorem dX9_meanAge_19 : decode cX9_meanAge 19 = .ok (.iload_n 1, 1) := by decide +kernel
theorem dX9_meanAge_20 : decode cX9_meanAge 20 = .ok (.aload_n 0, 1) := by decide +kernel
theorem dX9_meanAge_21 : decode cX9_meanAge 21 = .ok (.getfield 7, 3) := by decide +kernel
theorem dX9_meanAge_24 : decode cX9_meanAge 24 = .ok (.iload_n 2, 1) := by decide +kernel
theorem dX9_meanAge_25 : decode cX9_meanAge 25 = .ok (.invokestatic 92, 3) := by decide +kernel
theorem dX9_meanAge_28 : decode cX9_meanAge 28 = .ok (.iadd, 1) := by decide +kernel
theorem dX9_meanAge_29 : decode cX9_meanAge 29 = .ok (.istore_n 1, 1) := by decide +kernel
theorem dX9_meanAge_30 : decode cX9_meanAge 30 = .ok (.iinc 2 1, 3) := by decide +kernel
theorem dX9_meanAge_33 : decode cX9_meanAge 33 = .ok (.goto (-24), 3) := by decide +kernel
theorem dX9_meanAge_36 : decode cX9_meanAge 36 = .ok (.aload_n 0, 1) := by decide +kernel
theorem dX9_meanAge_37 : decode cX9_meanAge 37 = .ok (.getfield 7, 3) := by decide +kernel
theorem dX9_meanAge_40 : decode cX9_meanAge 40 = .ok (.iconst 3, 1) := by decide +kernel
theorem dX9_meanAge_41 : decode cX9_meanAge 41 = .ok (.iaload, 1) := by decide +kernel
theorem dX9_meanAge_42 : decode cX9_meanAge 42 = .ok (.ifCond .ne 7, 3) := by decide +kernel
theorem dX9_meanAge_45 : decode cX9_meanAge 45 = .ok (.dconst 0, 1) := by decide +kernel
theorem dX9_meanAge_46 : decode cX9_meanAge 46 = .ok (.goto 13, 3) := by decide +kernel
theorem dX9_meanAge_49 : decode cX9_meanAge 49 = .ok (.iload_n 1, 1) := by decide +kernel
theorem dX9_meanAge_50 : decode cX9_meanAge 50 = .ok (.i2d, 1) := by decide +kernel
theorem dX9_meanAge_51 : decode cX9_meanAge 51 = .ok (.aload_n 0, 1) := by decide +kernel
theorem dX9_meanAge_52 : decode cX9_meanAge 52 = .ok (.getfield 7, 3) := by decide +kernel
theorem dX9_meanAge_55 : decode cX9_meanAge 55 = .ok (.iconst 3, 1) := by decide +kernel
theorem dX9_meanAge_56 : decode cX9_meanAge 56 = .ok (.iaload, 1) := by decide +kernel
theorem dX9_meanAge_57 : decode cX9_meanAge 57 = .ok (.i2d, 1) := by decide +kernel
theorem dX9_meanAge_58 : decode cX9_meanAge 58 = .ok (.ddiv, 1) := by decide +kernel
theorem dX9_meanAge_59 : decode cX9_meanAge 59 = .ok (.dreturn, 1) := by decide +kernel
theorem dX9_soldShare_0 : decode cX9_soldShare 0 = .ok (.aload_n 0, 1) := by decide +kernel
theorem dX9_soldShare_1 : decode cX9_soldShare 1 = .ok (.iconst 0, 1) := by decide +kernel
theorem dX9_soldShare_2 : decode cX9_soldShare 2 = .ok (.putfield 75, 3) := by decide +kernel
theorem dX9_soldShare_5 : decode cX9_soldShare 5 = .ok (.aload_n 0, 1) := by decide +kernel
theorem dX9_soldShare_6 : decode cX9_soldShare 6 = .ok (.getfield 7, 3) := by decide +kernel
theorem dX9_soldShare_9 : decode cX9_soldShare 9 = .ok (.bipush 10, 2) := by decide +kernel
theorem dX9_soldShare_11 : decode cX9_soldShare 11 = .ok (.iaload, 1) := by decide +kernel
theorem dX9_soldShare_12 : decode cX9_soldShare 12 = .ok (.ifCond .ne 7, 3) := by decide +kernel
theorem dX9_soldShare_15 : decode cX9_soldShare 15 = .ok (.fconst 0, 1) := by decide +kernel
theorem dX9_soldShare_16 : decode cX9_soldShare 16 = .ok (.goto 20, 3) := by decide +kernel
theorem dX9_soldShare_19 : decode cX9_soldShare 19 = .ok (.aload_n 0, 1) := by decide +kernel
theorem dX9_soldShare_20 : decode cX9_soldShare 20 = .ok (.getfield 7, 3) := by decide +kernel
theorem dX9_soldShare_23 : decode cX9_soldShare 23 = .ok (.bipush 11, 2) := by decide +kernel
theorem dX9_soldShare_25 : decode cX9_soldShare 25 = .ok (.iaload, 1) := by decide +kernel
theorem dX9_soldShare_26 : decode cX9_soldShare 26 = .ok (.i2f, 1) := by decide +kernel
theorem dX9_soldShare_27 : decode cX9_soldShare 27 = .ok (.aload_n 0, 1) := by decide +kernel
theorem dX9_soldShare_28 : decode cX9_soldShare 28 = .ok (.getfield 7, 3) := by decide +kernel
theorem dX9_soldShare_31 : decode cX9_soldShare 31 = .ok (.bipush 10, 2) := by decide +kernel
theorem dX9_soldShare_33 : decode cX9_soldShare 33 = .ok (.iaload, 1) := by decide +kernel
theorem dX9_soldShare_34 : decode cX9_soldShare 34 = .ok (.i2f, 1) := by decide +kernel
theorem dX9_soldShare_35 : decode cX9_soldShare 35 = .ok (.fdiv, 1) := by decide +kernel
theorem dX9_soldShare_36 : decode cX9_soldShare 36 = .ok (.freturn, 1) := by decide +kernel
theorem dX9_bake_0 : decode cX9_bake 0 = .ok (.aload_n 0, 1) := by decide +kernel
theorem dX9_bake_1 : decode cX9_bake 1 = .ok (.iload_n 1, 1) := by decide +kernel
theorem dX9_bake_2 : decode cX9_bake 2 = .ok (.invokevirtual 323, 3) := by decide +kernel
theorem dX9_bake_5 : decode cX9_bake 5 = .ok (.ifCond .ne 35, 3) := by decide +kernel
theorem dX9_bake_8 : decode cX9_bake 8 = .ok (.aload_n 0, 1) := by decide +kernel
theorem dX9_bake_9 : decode cX9_bake 9 = .ok (.iload_n 2, 1) := by decide +kernel
theorem dX9_bake_10 : decode cX9_bake 10 = .ok (.invokevirtual 329, 3) := by decide +kernel
theorem dX9_bake_13 : decode cX9_bake 13 = .ok (.ifCond .ne 27, 3) := by decide +kernel
theorem dX9_bake_16 : decode cX9_bake 16 = .ok (.aload_n 0, 1) := by decide +kernel
theorem dX9_bake_17 : decode cX9_bake 17 = .ok (.aload_n 0, 1) := by decide +kernel
theorem dX9_bake_18 : decode cX9_bake 18 = .ok (.getfield 7, 3) := by decide +kernel
theorem dX9_bake_21 : decode cX9_bake 21 = .ok (.iload_n 1, 1) := by decide +kernel
theorem dX9_bake_22 : decode cX9_bake 22 = .ok (.invokestatic 254, 3) := by decide +kernel
theorem dX9_bake_25 : decode cX9_bake 25 = .ok (.ifCond .eq 7, 3) := by decide +kernel
theorem dX9_bake_28 : decode cX9_bake 28 = .ok (.iconst 1, 1) := by decide +kernel
theorem dX9_bake_29 : decode cX9_bake 29 = .ok (.goto 4, 3) := by decide +kernel
theorem dX9_bake_32 : decode cX9_bake 32 = .ok (.iconst 0, 1) := by decide +kernel
theorem dX9_bake_33 : decode cX9_bake 33 = .ok (.iconst 2, 1) := by decide +kernel
theorem dX9_bake_34 : decode cX9_bake 34 = .ok (.invokevirtual 168, 3) := by decide +kernel
theorem dX9_bake_37 : decode cX9_bake 37 = .ok (.ifCond .eq 5, 3) := by decide +kernel
theorem dX9_bake_40 : decode cX9_bake 40 = .ok (.iconst 0, 1) := by decide +kernel
theorem dX9_bake_41 : decode cX9_bake 41 = .ok (.ireturn, 1) := by decide +kernel
theorem dX9_bake_42 : decode cX9_bake 42 = .ok (.aload_n 0, 1) := by decide +kernel
theorem dX9_bake_43 : decode cX9_bake 43 = .ok (.invokevirtual 305, 3) := by decide +kernel
theorem dX9_bake_46 : decode cX9_bake 46 = .ok (.aload_n 0, 1) := by decide +kernel
theorem dX9_bake_47 : decode cX9_bake 47 = .ok (.getfield 7, 3) := by decide +kernel
theorem dX9_bake_50 : decode cX9_bake 50 = .ok (.iload_n 1, 1) := by decide +kernel
theorem dX9_bake_51 : decode cX9_bake 51 = .ok (.iload_n 2, 1) := by decide +kernel
theorem dX9_bake_52 : decode cX9_bake 52 = .ok (.invokestatic 257, 3) := by decide +kernel
theorem dX9_bake_55 : decode cX9_bake 55 = .ok (.ireturn, 1) := by decide +kernel
theorem dX9_auction_0 : decode cX9_auction 0 = .ok (.aload_n 0, 1) := by decide +kernel
theorem dX9_auction_1 : decode cX9_auction 1 = .ok (.iload_n 1, 1) := by decide +kernel
theorem dX9_auction_2 : decode cX9_auction 2 = .ok (.invokevirtual 329, 3) := by decide +kernel
theorem dX9_auction_5 : decode cX9_auction 5 = .ok (.ifCond .eq 5, 3) := by decide +kernel
theorem dX9_auction_8 : decode cX9_auction 8 = .ok (.iconst 0, 1) := by decide +kernel
theorem dX9_auction_9 : decode cX9_auction 9 = .ok (.ireturn, 1) := by decide +kernel
theorem dX9_auction_10 : decode cX9_auction 10 = .ok (.aload_n 0, 1) := by decide +kernel
theorem dX9_auction_11 : decode cX9_auction 11 = .ok (.invokevirtual 305, 3) := by decide +kernel
theorem dX9_auction_14 : decode cX9_auction 14 = .ok (.aload_n 0, 1) := by decide +kernel
theorem dX9_auction_15 : decode cX9_auction 15 = .ok (.aload_n 0, 1) := by decide +kernel
theorem dX9_auction_16 : decode cX9_auction 16 = .ok (.getfield 7, 3) := by decide +kernel
theorem dX9_auction_19 : decode cX9_auction 19 = .ok (.iload_n 1, 1) := by decide +kernel
theorem dX9_auction_20 : decode cX9_auction 20 = .ok (.invokevirtual 264, 3) := by decide +kernel
theorem dX9_auction_23 : decode cX9_auction 23 = .ok (.ireturn, 1) := by decide +kernel
theorem dX9_joinQueue_0 : decode cX9_joinQueue 0 = .ok (.aload_n 0, 1) := by decide +kernel
theorem dX9_joinQueue_1 : decode cX9_joinQueue 1 = .ok (.iload_n 1, 1) := by decide +kernel
theorem dX9_joinQueue_2 : decode cX9_joinQueue 2 = .ok (.invokevirtual 329, 3) := by decide +kernel
theorem dX9_joinQueue_5 : decode cX9_joinQueue 5 = .ok (.ifCond .ne 50, 3) := by decide +kernel
theorem dX9_joinQueue_8 : decode cX9_joinQueue 8 = .ok (.aload_n 0, 1) := by decide +kernel
theorem dX9_joinQueue_9 : decode cX9_joinQueue 9 = .ok (.iload_n 2, 1) := by decide +kernel
theorem dX9_joinQueue_10 : decode cX9_joinQueue 10 = .ok (.iconst 1, 1) := by decide +kernel
theorem dX9_joinQueue_11 : decode cX9_joinQueue 11 = .ok (.bipush 9, 2) := by decide +kernel
theorem dX9_joinQueue_13 : decode cX9_joinQueue 13 = .ok (.invokevirtual 320, 3) := by decide +kernel
theorem dX9_joinQueue_16 : decode cX9_joinQueue 16 = .ok (.ifCond .ne 39, 3) := by decide +kernel
theorem dX9_joinQueue_19 : decode cX9_joinQueue 19 = .ok (.aload_n 0, 1) := by decide +kernel
theorem dX9_joinQueue_20 : decode cX9_joinQueue 20 = .ok (.iload_n 3, 1) := by decide +kernel
theorem dX9_joinQueue_21 : decode cX9_joinQueue 21 = .ok (.iconst 1, 1) := by decide +kernel
theorem dX9_joinQueue_22 : decode cX9_joinQueue 22 = .ok (.bipush 99, 2) := by decide +kernel
theorem dX9_joinQueue_24 : decode cX9_joinQueue 24 = .ok (.invokevirtual 320, 3) := by decide +kernel
theorem dX9_joinQueue_27 : decode cX9_joinQueue 27 = .ok (.ifCond .ne 28, 3) := by decide +kernel
theorem dX9_joinQueue_30 : decode cX9_joinQueue 30 = .ok (.aload_n 0, 1) := by decide +kernel
theorem dX9_joinQueue_31 : decode cX9_joinQueue 31 = .ok (.iload 4, 2) := by decide +kernel
theorem dX9_joinQueue_33 : decode cX9_joinQueue 33 = .ok (.iconst 0, 1) := by decide +kernel
theorem dX9_joinQueue_34 : decode cX9_joinQueue 34 = .ok (.sipush 999, 3) := by decide +kernel
theorem dX9_joinQueue_37 : decode cX9_joinQueue 37 = .ok (.invokevirtual 320, 3) := by decide +kernel
theorem dX9_joinQueue_40 : decode cX9_joinQueue 40 = .ok (.ifCond .ne 15, 3) := by decide +kernel
theorem dX9_joinQueue_43 : decode cX9_joinQueue 43 = .ok (.aload_n 0, 1) := by decide +kernel
theorem dX9_joinQueue_44 : decode cX9_joinQueue 44 = .ok (.iload 5, 2) := by decide +kernel
theorem dX9_joinQueue_46 : decode cX9_joinQueue 46 = .ok (.iconst 1, 1) := by decide +kernel
theorem dX9_joinQueue_47 : decode cX9_joinQueue 47 = .ok (.bipush 99, 2) := by decide +kernel
theorem dX9_joinQueue_49 : decode cX9_joinQueue 49 = .ok (.invokevirtual 320, 3) := by decide +kernel
theorem dX9_joinQueue_52 : decode cX9_joinQueue 52 = .ok (.ifCond .eq 5, 3) := by decide +kernel
theorem dX9_joinQueue_55 : decode cX9_joinQueue 55 = .ok (.iconst 0, 1) := by decide +kernel
theorem dX9_joinQueue_56 : decode cX9_joinQueue 56 = .ok (.ireturn, 1) := by decide +kernel
theorem dX9_joinQueue_57 : decode cX9_joinQueue 57 = .ok (.aload_n 0, 1) := by decide +kernel
theorem dX9_joinQueue_58 : decode cX9_joinQueue 58 = .ok (.iconst 0, 1) := by decide +kernel
theorem dX9_joinQueue_59 : decode cX9_joinQueue 59 = .ok (.aload_n 0, 1) := by decide +kernel
theorem dX9_joinQueue_60 : decode cX9_joinQueue 60 = .ok (.getfield 58, 3) := by decide +kernel
theorem dX9_joinQueue_63 : decode cX9_joinQueue 63 = .ok (.invokevirtual 224, 3) := by decide +kernel
theorem dX9_joinQueue_66 : decode cX9_joinQueue 66 = .ok (.istore 6, 2) := by decide +kernel
theorem dX9_joinQueue_68 : decode cX9_joinQueue 68 = .ok (.aload_n 0, 1) := by decide +kernel
theorem dX9_joinQueue_69 : decode cX9_joinQueue 69 = .ok (.iload 6, 2) := by decide +kernel
theorem dX9_joinQueue_71 : decode cX9_joinQueue 71 = .ok (.iconst (-1), 1) := by decide +kernel
theorem dX9_joinQueue_72 : decode cX9_joinQueue 72 = .ok (.if_icmp .ne 7, 3) := by decide +kernel
theorem dX9_joinQueue_75 : decode cX9_joinQueue 75 = .ok (.iconst 1, 1) := by decide +kernel
theorem dX9_joinQueue_76 : decode cX9_joinQueue 76 = .ok (.goto 4, 3) := by decide +kernel
theorem dX9_joinQueue_79 : decode cX9_joinQueue 79 = .ok (.iconst 0, 1) := by decide +kernel
theorem dX9_joinQueue_80 : decode cX9_joinQueue 80 = .ok (.iconst 2, 1) := by decide +kernel
theorem dX9_joinQueue_81 : decode cX9_joinQueue 81 = .ok (.invokevirtual 168, 3) := by decide +kernel
theorem dX9_joinQueue_84 : decode cX9_joinQueue 84 = .ok (.ifCond .ne 39, 3) := by decide +kernel
theorem dX9_joinQueue_87 : decode cX9_joinQueue 87 = .ok (.aload_n 0, 1) := by decide +kernel
theorem dX9_joinQueue_88 : decode cX9_joinQueue 88 = .ok (.aload_n 0, 1) := by decide +kernel
theorem dX9_joinQueue_89 : decode cX9_joinQueue 89 = .ok (.getfield 7, 3) := by decide +kernel
theorem dX9_joinQueue_92 : decode cX9_joinQueue 92 = .ok (.iconst 2, 1) := by decide +kernel
theorem dX9_joinQueue_93 : decode cX9_joinQueue 93 = .ok (.iaload, 1) := by decide +kernel
theorem dX9_joinQueue_94 : decode cX9_joinQueue 94 = .ok (.bipush 10, 2) := by decide +kernel
theorem dX9_joinQueue_96 : decode cX9_joinQueue 96 = .ok (.if_icmp .eq 15, 3) := by decide +kernel
theorem dX9_joinQueue_99 : decode cX9_joinQueue 99 = .ok (.aload_n 0, 1) := by decide +kernel
theorem dX9_joinQueue_100 : decode cX9_joinQueue 100 = .ok (.getfield 7, 3) := by decide +kernel
theorem dX9_joinQueue_103 : decode cX9_joinQueue 103 = .ok (.iload 6, 2) := by decide +kernel
theorem dX9_joinQueue_105 : decode cX9_joinQueue 105 = .ok (.invokestatic 228, 3) := by decide +kernel
theorem dX9_joinQueue_108 : decode cX9_joinQueue 108 = .ok (.ifCond .eq 7, 3) := by decide +kernel
theorem dX9_joinQueue_111 : decode cX9_joinQueue 111 = .ok (.iconst 1, 1) := by decide +kernel
theorem dX9_joinQueue_112 : decode cX9_joinQueue 112 = .ok (.goto 4, 3) := by decide +kernel
theorem dX9_joinQueue_115 : decode cX9_joinQueue 115 = .ok (.iconst 0, 1) := by decide +kernel
theorem dX9_joinQueue_116 : decode cX9_joinQueue 116 = .ok (.iconst 3, 1) := by decide +kernel
theorem dX9_joinQueue_117 : decode cX9_joinQueue 117 = .ok (.invokevirtual 168, 3) := by decide +kernel
theorem dX9_joinQueue_120 : decode cX9_joinQueue 120 = .ok (.ifCond .eq 5, 3) := by decide +kernel
theorem dX9_joinQueue_123 : decode cX9_joinQueue 123 = .ok (.iconst 0, 1) := by decide +kernel
theorem dX9_joinQueue_124 : decode cX9_joinQueue 124 = .ok (.ireturn, 1) := by decide +kernel
theorem dX9_joinQueue_125 : decode cX9_joinQueue 125 = .ok (.aload_n 0, 1) := by decide +kernel
theorem dX9_joinQueue_126 : decode cX9_joinQueue 126 = .ok (.invokevirtual 305, 3) := by decide +kernel
theorem dX9_joinQueue_129 : decode cX9_joinQueue 129 = .ok (.aload_n 0, 1) := by decide +kernel
theorem dX9_joinQueue_130 : decode cX9_joinQueue 130 = .ok (.iconst 0, 1) := by decide +kernel
theorem dX9_joinQueue_131 : decode cX9_joinQueue 131 = .ok (.putfield 58, 3) := by decide +kernel
theorem dX9_joinQueue_134 : decode cX9_joinQueue 134 = .ok (.aload_n 0, 1) := by decide +kernel
theorem dX9_joinQueue_135 : decode cX9_joinQueue 135 = .ok (.getfield 7, 3) := by decide +kernel
theorem dX9_joinQueue_138 : decode cX9_joinQueue 138 = .ok (.iload 6, 2) := by decide +kernel
theorem dX9_joinQueue_140 : decode cX9_joinQueue 140 = .ok (.iload_n 1, 1) := by decide +kernel
theorem dX9_joinQueue_141 : decode cX9_joinQueue 141 = .ok (.iload_n 2, 1) := by decide +kernel
theorem dX9_joinQueue_142 : decode cX9_joinQueue 142 = .ok (.iload_n 3, 1) := by decide +kernel
theorem dX9_joinQueue_143 : decode cX9_joinQueue 143 = .ok (.iload 4, 2) := by decide +kernel
theorem dX9_joinQueue_145 : decode cX9_joinQueue 145 = .ok (.iload 5, 2) := by decide +kernel
theorem dX9_joinQueue_147 : decode cX9_joinQueue 147 = .ok (.invokestatic 260, 3) := by decide +kernel
theorem dX9_joinQueue_150 : decode cX9_joinQueue 150 = .ok (.ireturn, 1) := by decide +kernel
theorem dX9_sendAway_0 : decode cX9_sendAway 0 = .ok (.aload_n 0, 1) := by decide +kernel
theorem dX9_sendAway_1 : decode cX9_sendAway 1 = .ok (.iload_n 1, 1) := by decide +kernel
theorem dX9_sendAway_2 : decode cX9_sendAway 2 = .ok (.invokevirtual 332, 3) := by decide +kernel
theorem dX9_sendAway_5 : decode cX9_sendAway 5 = .ok (.ifCond .eq 5, 3) := by decide +kernel
theorem dX9_sendAway_8 : decode cX9_sendAway 8 = .ok (.iconst 0, 1) := by decide +kernel
theorem dX9_sendAway_9 : decode cX9_sendAway 9 = .ok (.ireturn, 1) := by decide +kernel
theorem dX9_sendAway_10 : decode cX9_sendAway 10 = .ok (.aload_n 0, 1) := by decide +kernel
theorem dX9_sendAway_11 : decode cX9_sendAway 11 = .ok (.invokevirtual 305, 3) := by decide +kernel
theorem dX9_sendAway_14 : decode cX9_sendAway 14 = .ok (.aload_n 0, 1) := by decide +kernel
theorem dX9_sendAway_15 : decode cX9_sendAway 15 = .ok (.getfield 7, 3) := by decide +kernel
theorem dX9_sendAway_18 : decode cX9_sendAway 18 = .ok (.iload_n 1, 1) := by decide +kernel
theorem dX9_sendAway_19 : decode cX9_sendAway 19 = .ok (.invokestatic 111, 3) := by decide +kernel
theorem dX9_sendAway_22 : decode cX9_sendAway 22 = .ok (.iconst 4, 1) := by decide +kernel
theorem dX9_sendAway_23 : decode cX9_sendAway 23 = .ok (.iadd, 1) := by decide +kernel
theorem dX9_sendAway_24 : decode cX9_sendAway 24 = .ok (.iaload, 1) := by decide +kernel
theorem dX9_sendAway_25 : decode cX9_sendAway 25 = .ok (.istore_n 2, 1) := by decide +kernel
theorem dX9_sendAway_26 : decode cX9_sendAway 26 = .ok (.aload_n 0, 1) := by decide +kernel
theorem dX9_sendAway_27 : decode cX9_sendAway 27 = .ok (.aload_n 0, 1) := by decide +kernel
theorem dX9_sendAway_28 : decode cX9_sendAway 28 = .ok (.getfield 7, 3) := by decide +kernel
theorem dX9_sendAway_31 : decode cX9_sendAway 31 = .ok (.iload_n 1, 1) := by decide +kernel
theorem dX9_sendAway_32 : decode cX9_sendAway 32 = .ok (.iconst 2, 1) := by decide +kernel
theorem dX9_sendAway_33 : decode cX9_sendAway 33 = .ok (.invokevirtual 148, 3) := by decide +kernel
theorem dX9_sendAway_36 : decode cX9_sendAway 36 = .ok (.iload_n 2, 1) := by decide +kernel
theorem dX9_sendAway_37 : decode cX9_sendAway 37 = .ok (.ireturn, 1) := by decide +kernel
theorem dX9_setBasePrice_0 : decode cX9_setBasePrice 0 = .ok (.aload_n 0, 1) := by decide +kernel
theorem dX9_setBasePrice_1 : decode cX9_setBasePrice 1 = .ok (.iload_n 1, 1) := by decide +kernel
theorem dX9_setBasePrice_2 : decode cX9_setBasePrice 2 = .ok (.invokevirtual 329, 3) := by decide +kernel
theorem dX9_setBasePrice_5 : decode cX9_setBasePrice 5 = .ok (.ifCond .ne 14, 3) := by decide +kernel
theorem dX9_setBasePrice_8 : decode cX9_setBasePrice 8 = .ok (.aload_n 0, 1) := by decide +kernel
theorem dX9_setBasePrice_9 : decode cX9_setBasePrice 9 = .ok (.iload_n 2, 1) := by decide +kernel
theorem dX9_setBasePrice_10 : decode cX9_setBasePrice 10 = .ok (.iconst 1, 1) := by decide +kernel
theorem dX9_setBasePrice_11 : decode cX9_setBasePrice 11 = .ok (.bipush 99, 2) := by decide +kernel
theorem dX9_setBasePrice_13 : decode cX9_setBasePrice 13 = .ok (.invokevirtual 320, 3) := by decide +kernel
theorem dX9_setBasePrice_16 : decode cX9_setBasePrice 16 = .ok (.ifCond .eq 5, 3) := by decide +kernel
theorem dX9_setBasePrice_19 : decode cX9_setBasePrice 19 = .ok (.iconst 0, 1) := by decide +kernel
theorem dX9_setBasePrice_20 : decode cX9_setBasePrice 20 = .ok (.ireturn, 1) := by decide +kernel
theorem dX9_setBasePrice_21 : decode cX9_setBasePrice 21 = .ok (.aload_n 0, 1) := by decide +kernel
theorem dX9_setBasePrice_22 : decode cX9_setBasePrice 22 = .ok (.invokevirtual 305, 3) := by decide +kernel
theorem dX9_setBasePrice_25 : decode cX9_setBasePrice 25 = .ok (.aload_n 0, 1) := by decide +kernel
theorem dX9_setBasePrice_26 : decode cX9_setBasePrice 26 = .ok (.getfield 7, 3) := by decide +kernel
theorem dX9_setBasePrice_29 : decode cX9_setBasePrice 29 = .ok (.bipush 13, 2) := by decide +kernel
theorem dX9_setBasePrice_31 : decode cX9_setBasePrice 31 = .ok (.iload_n 1, 1) := by decide +kernel
theorem dX9_setBasePrice_32 : decode cX9_setBasePrice 32 = .ok (.iadd, 1) := by decide +kernel
theorem dX9_setBasePrice_33 : decode cX9_setBasePrice 33 = .ok (.iaload, 1) := by decide +kernel
theorem dX9_setBasePrice_34 : decode cX9_setBasePrice 34 = .ok (.istore_n 3, 1) := by decide +kernel
theorem dX9_setBasePrice_35 : decode cX9_setBasePrice 35 = .ok (.aload_n 0, 1) := by decide +kernel
theorem dX9_setBasePrice_36 : decode cX9_setBasePrice 36 = .ok (.getfield 7, 3) := by decide +kernel
theorem dX9_setBasePrice_39 : decode cX9_setBasePrice 39 = .ok (.bipush 13, 2) := by decide +kernel
theorem dX9_setBasePrice_41 : decode cX9_setBasePrice 41 = .ok (.iload_n 1, 1) := by decide +kernel
theorem dX9_setBasePrice_42 : decode cX9_setBasePrice 42 = .ok (.iadd, 1) := by decide +kernel
theorem dX9_setBasePrice_43 : decode cX9_setBasePrice 43 = .ok (.iload_n 2, 1) := by decide +kernel
theorem dX9_setBasePrice_44 : decode cX9_setBasePrice 44 = .ok (.iastore, 1) := by decide +kernel
theorem dX9_setBasePrice_45 : decode cX9_setBasePrice 45 = .ok (.iload_n 3, 1) := by decide +kernel
theorem dX9_setBasePrice_46 : decode cX9_setBasePrice 46 = .ok (.ireturn, 1) := by decide +kernel
theorem dX9_scatter_0 : decode cX9_scatter 0 = .ok (.aload_n 0, 1) := by decide +kernel
theorem dX9_scatter_1 : decode cX9_scatter 1 = .ok (.iload_n 1, 1) := by decide +kernel
theorem dX9_scatter_2 : decode cX9_scatter 2 = .ok (.iconst 1, 1) := by decide +kernel
theorem dX9_scatter_3 : decode cX9_scatter 3 = .ok (.bipush 99, 2) := by decide +kernel
theorem dX9_scatter_5 : decode cX9_scatter 5 = .ok (.invokevirtual 176, 3) := by decide +kernel
theorem dX9_scatter_8 : decode cX9_scatter 8 = .ok (.ifCond .eq 5, 3) := by decide +kernel
theorem dX9_scatter_11 : decode cX9_scatter 11 = .ok (.iconst 0, 1) := by decide +kernel
theorem dX9_scatter_12 : decode cX9_scatter 12 = .ok (.ireturn, 1) := by decide +kernel
theorem dX9_scatter_13 : decode cX9_scatter 13 = .ok (.aload_n 0, 1) := by decide +kernel
theorem dX9_scatter_14 : decode cX9_scatter 14 = .ok (.invokevirtual 305, 3) := by decide +kernel
theorem dX9_scatter_17 : decode cX9_scatter 17 = .ok (.aload_n 0, 1) := by decide +kernel
theorem dX9_scatter_18 : decode cX9_scatter 18 = .ok (.getfield 7, 3) := by decide +kernel
theorem dX9_scatter_21 : decode cX9_scatter 21 = .ok (.iconst 4, 1) := by decide +kernel
theorem dX9_scatter_22 : decode cX9_scatter 22 = .ok (.dup2, 1) := by decide +kernel
theorem dX9_scatter_23 : decode cX9_scatter 23 = .ok (.iaload, 1) := by decide +kernel
theorem dX9_scatter_24 : decode cX9_scatter 24 = .ok (.iload_n 1, 1) := by decide +kernel
theorem dX9_scatter_25 : decode cX9_scatter 25 = .ok (.iadd, 1) := by decide +kernel
theorem dX9_scatter_26 : decode cX9_scatter 26 = .ok (.iastore, 1) := by decide +kernel
theorem dX9_scatter_27 : decode cX9_scatter 27 = .ok (.aload_n 0, 1) := by decide +kernel
theorem dX9_scatter_28 : decode cX9_scatter 28 = .ok (.getfield 7, 3) := by decide +kernel
theorem dX9_scatter_31 : decode cX9_scatter 31 = .ok (.iconst 4, 1) := by decide +kernel
theorem dX9_scatter_32 : decode cX9_scatter 32 = .ok (.iaload, 1) := by decide +kernel
theorem dX9_scatter_33 : decode cX9_scatter 33 = .ok (.ireturn, 1) := by decide +kernel
theorem dX9_passHours_0 : decode cX9_passHours 0 = .ok (.aload_n 0, 1) := by decide +kernel
theorem dX9_passHours_1 : decode cX9_passHours 1 = .ok (.iload_n 1, 1) := by decide +kernel
theorem dX9_passHours_2 : decode cX9_passHours 2 = .ok (.iconst 1, 1) := by decide +kernel
theorem dX9_passHours_3 : decode cX9_passHours 3 = .ok (.bipush 60, 2) := by decide +kernel
theorem dX9_passHours_5 : decode cX9_passHours 5 = .ok (.invokevirtual 176, 3) := by decide +kernel
theorem dX9_passHours_8 : decode cX9_passHours 8 = .ok (.ifCond .eq 5, 3) := by decide +kernel
theorem dX9_passHours_11 : decode cX9_passHours 11 = .ok (.iconst 0, 1) := by decide +kernel
theorem dX9_passHours_12 : decode cX9_passHours 12 = .ok (.ireturn, 1) := by decide +kernel
theorem dX9_passHours_13 : decode cX9_passHours 13 = .ok (.aload_n 0, 1) := by decide +kernel
theorem dX9_passHours_14 : decode cX9_passHours 14 = .ok (.invokevirtual 305, 3) := by decide +kernel
theorem dX9_passHours_17 : decode cX9_passHours 17 = .ok (.aload_n 0, 1) := by decide +kernel
theorem dX9_passHours_18 : decode cX9_passHours 18 = .ok (.getfield 7, 3) := by decide +kernel
theorem dX9_passHours_21 : decode cX9_passHours 21 = .ok (.bipush 12, 2) := by decide +kernel
theorem dX9_passHours_23 : decode cX9_passHours 23 = .ok (.iaload, 1) := by decide +kernel
theorem dX9_passHours_24 : decode cX9_passHours 24 = .ok (.istore_n 2, 1) := by decide +kernel
theorem dX9_passHours_25 : decode cX9_passHours 25 = .ok (.aload_n 0, 1) := by decide +kernel
theorem dX9_passHours_26 : decode cX9_passHours 26 = .ok (.aload_n 0, 1) := by decide +kernel
theorem dX9_passHours_27 : decode cX9_passHours 27 = .ok (.getfield 7, 3) := by decide +kernel
theorem dX9_passHours_30 : decode cX9_passHours 30 = .ok (.iload_n 1, 1) := by decide +kernel
theorem dX9_passHours_31 : decode cX9_passHours 31 = .ok (.invokevirtual 267, 3) := by decide +kernel
theorem dX9_passHours_34 : decode cX9_passHours 34 = .ok (.aload_n 0, 1) := by decide +kernel
theorem dX9_passHours_35 : decode cX9_passHours 35 = .ok (.getfield 7, 3) := by decide +kernel
theorem dX9_passHours_38 : decode cX9_passHours 38 = .ok (.bipush 12, 2) := by decide +kernel
theorem dX9_passHours_40 : decode cX9_passHours 40 = .ok (.iaload, 1) := by decide +kernel
theorem dX9_passHours_41 : decode cX9_passHours 41 = .ok (.iload_n 2, 1) := by decide +kernel
theorem dX9_passHours_42 : decode cX9_passHours 42 = .ok (.isub, 1) := by decide +kernel
theorem dX9_passHours_43 : decode cX9_passHours 43 = .ok (.ireturn, 1) := by decide +kernel
theorem dX9_print_0 : decode cX9_print 0 = .ok (.aload_n 0, 1) := by decide +kernel
theorem dX9_print_1 : decode cX9_print 1 = .ok (.getfield 45, 3) := by decide +kernel
theorem dX9_print_4 : decode cX9_print 4 = .ok (.aload_n 0, 1) := by decide +kernel
theorem dX9_print_5 : decode cX9_print 5 = .ok (.getfield 350, 3) := by decide +kernel
theorem dX9_print_8 : decode cX9_print 8 = .ok (.iload_n 1, 1) := by decide +kernel
theorem dX9_print_9 : decode cX9_print 9 = .ok (.i2b, 1) := by decide +kernel
theorem dX9_print_10 : decode cX9_print 10 = .ok (.bastore, 1) := by decide +kernel
theorem dX9_print_11 : decode cX9_print 11 = .ok (.aload_n 0, 1) := by decide +kernel
theorem dX9_print_12 : decode cX9_print 12 = .ok (.dup, 1) := by decide +kernel
theorem dX9_print_13 : decode cX9_print 13 = .ok (.getfield 350, 3) := by decide +kernel
theorem dX9_print_16 : decode cX9_print 16 = .ok (.iconst 1, 1) := by decide +kernel
theorem dX9_print_17 : decode cX9_print 17 = .ok (.iadd, 1) := by decide +kernel
theorem dX9_print_18 : decode cX9_print 18 = .ok (.putfield 350, 3) := by decide +kernel
theorem dX9_print_21 : decode cX9_print 21 = .ok (.return_, 1) := by decide +kernel
theorem dX9_printNumber_0 : decode cX9_printNumber 0 = .ok (.iload_n 1, 1) := by decide +kernel
theorem dX9_printNumber_1 : decode cX9_printNumber 1 = .ok (.bipush 9, 2) := by decide +kernel
theorem dX9_printNumber_3 : decode cX9_printNumber 3 = .ok (.if_icmp .le 14, 3) := by decide +kernel
theorem dX9_printNumber_6 : decode cX9_printNumber 6 = .ok (.aload_n 0, 1) := by decide +kernel
theorem dX9_printNumber_7 : decode cX9_printNumber 7 = .ok (.bipush 48, 2) := by decide +kernel
theorem dX9_printNumber_9 : decode cX9_printNumber 9 = .ok (.iload_n 1, 1) := by decide +kernel
theorem dX9_printNumber_10 : decode cX9_printNumber 10 = .ok (.bipush 10, 2) := by decide +kernel
theorem dX9_printNumber_12 : decode cX9_printNumber 12 = .ok (.idiv, 1) := by decide +kernel
theorem dX9_printNumber_13 : decode cX9_printNumber 13 = .ok (.iadd, 1) := by decide +kernel
theorem dX9_printNumber_14 : decode cX9_printNumber 14 = .ok (.invokevirtual 353, 3) := by decide +kernel
theorem dX9_printNumber_17 : decode cX9_printNumber 17 = .ok (.aload_n 0, 1) := by decide +kernel
theorem dX9_printNumber_18 : decode cX9_printNumber 18 = .ok (.bipush 48, 2) := by decide +kernel
theorem dX9_printNumber_20 : decode cX9_printNumber 20 = .ok (.iload_n 1, 1) := by decide +kernel
theorem dX9_printNumber_21 : decode cX9_printNumber 21 = .ok (.bipush 10, 2) := by decide +kernel
theorem dX9_printNumber_23 : decode cX9_printNumber 23 = .ok (.irem, 1) := by decide +kernel
theorem dX9_printNumber_24 : decode cX9_printNumber 24 = .ok (.iadd, 1) := by decide +kernel
theorem dX9_printNumber_25 : decode cX9_printNumber 25 = .ok (.invokevirtual 353, 3) := by decide +kernel
theorem dX9_printNumber_28 : decode cX9_printNumber 28 = .ok (.return_, 1) := by decide +kernel
theorem dX9_printCustomer_0 : decode cX9_printCustomer 0 = .ok (.iconst 0, 1) := by decide +kernel
theorem dX9_printCustomer_1 : decode cX9_printCustomer 1 = .ok (.istore_n 2, 1) := by decide +kernel
theorem dX9_printCustomer_2 : decode cX9_printCustomer 2 = .ok (.iload_n 2, 1) := by decide +kernel
theorem dX9_printCustomer_3 : decode cX9_printCustomer 3 = .ok (.aload_n 0, 1) := by decide +kernel
theorem dX9_printCustomer_4 : decode cX9_printCustomer 4 = .ok (.getfield 7, 3) := by decide +kernel
theorem dX9_printCustomer_7 : decode cX9_printCustomer 7 = .ok (.iload_n 1, 1) := by decide +kernel
theorem dX9_printCustomer_8 : decode cX9_printCustomer 8 = .ok (.iconst 0, 1) := by decide +kernel
theorem dX9_printCustomer_9 : decode cX9_printCustomer 9 = .ok (.iadd, 1) := by decide +kernel
theorem dX9_printCustomer_10 : decode cX9_printCustomer 10 = .ok (.iaload, 1) := by decide +kernel
theorem dX9_printCustomer_11 : decode cX9_printCustomer 11 = .ok (.invokestatic 317, 3) := by decide +kernel
theorem dX9_printCustomer_14 : decode cX9_printCustomer 14 = .ok (.if_icmp .ge 28, 3) := by decide +kernel
theorem dX9_printCustomer_17 : decode cX9_printCustomer 17 = .ok (.aload_n 0, 1) := by decide +kernel
theorem dX9_printCustomer_18 : decode cX9_printCustomer 18 = .ok (.bipush 96, 2) := by decide +kernel
theorem dX9_printCustomer_20 : decode cX9_printCustomer 20 = .ok (.aload_n 0, 1) := by decide +kernel
theorem dX9_printCustomer_21 : decode cX9_printCustomer 21 = .ok (.getfield 7, 3) := by decide +kernel
theorem dX9_printCustomer_24 : decode cX9_printCustomer 24 = .ok (.iload_n 1, 1) := by decide +kernel
theorem dX9_printCustomer_25 : decode cX9_printCustomer 25 = .ok (.iconst 0, 1) := by decide +kernel
theorem dX9_printCustomer_26 : decode cX9_printCustomer 26 = .ok (.iadd, 1) := by decide +kernel
theorem dX9_printCustomer_27 : decode cX9_printCustomer 27 = .ok (.iaload, 1) := by decide +kernel
theorem dX9_printCustomer_28 : decode cX9_printCustomer 28 = .ok (.iload_n 2, 1) := by decide +kernel
theorem dX9_printCustomer_29 : decode cX9_printCustomer 29 = .ok (.invokestatic 314, 3) := by decide +kernel
theorem dX9_printCustomer_32 : decode cX9_printCustomer 32 = .ok (.iadd, 1) := by decide +kernel
theorem dX9_printCustomer_33 : decode cX9_printCustomer 33 = .ok (.invokevirtual 353, 3) := by decide +kernel
theorem dX9_printCustomer_36 : decode cX9_printCustomer 36 = .ok (.iinc 2 1, 3) := by decide +kernel
theorem dX9_printCustomer_39 : decode cX9_printCustomer 39 = .ok (.goto (-37), 3) := by decide +kernel
theorem dX9_printCustomer_42 : decode cX9_printCustomer 42 = .ok (.aload_n 0, 1) := by decide +kernel
theorem dX9_printCustomer_43 : decode cX9_printCustomer 43 = .ok (.bipush 42, 2) := by decide +kernel
theorem dX9_printCustomer_45 : decode cX9_printCustomer 45 = .ok (.invokevirtual 353, 3) := by decide +kernel
theorem dX9_printCustomer_48 : decode cX9_printCustomer 48 = .ok (.aload_n 0, 1) := by decide +kernel
theorem dX9_printCustomer_49 : decode cX9_printCustomer 49 = .ok (.aload_n 0, 1) := by decide +kernel
theorem dX9_printCustomer_50 : decode cX9_printCustomer 50 = .ok (.getfield 7, 3) := by decide +kernel
theorem dX9_printCustomer_53 : decode cX9_printCustomer 53 = .ok (.iload_n 1, 1) := by decide +kernel
theorem dX9_printCustomer_54 : decode cX9_printCustomer 54 = .ok (.iconst 2, 1) := by decide +kernel
theorem dX9_printCustomer_55 : decode cX9_printCustomer 55 = .ok (.iadd, 1) := by decide +kernel
theorem dX9_printCustomer_56 : decode cX9_printCustomer 56 = .ok (.iaload, 1) := by decide +kernel
theorem dX9_printCustomer_57 : decode cX9_printCustomer 57 = .ok (.invokevirtual 356, 3) := by decide +kernel
theorem dX9_printCustomer_60 : decode cX9_printCustomer 60 = .ok (.aload_n 0, 1) := by decide +kernel
theorem dX9_printCustomer_61 : decode cX9_printCustomer 61 = .ok (.aload_n 0, 1) := by decide +kernel
theorem dX9_printCustomer_62 : decode cX9_printCustomer 62 = .ok (.getfield 7, 3) := by decide +kernel
theorem dX9_printCustomer_65 : decode cX9_printCustomer 65 = .ok (.iload_n 1, 1) := by decide +kernel
theorem dX9_printCustomer_66 : decode cX9_printCustomer 66 = .ok (.iconst 1, 1) := by decide +kernel
theorem dX9_printCustomer_67 : decode cX9_printCustomer 67 = .ok (.iadd, 1) := by decide +kernel
theorem dX9_printCustomer_68 : decode cX9_printCustomer 68 = .ok (.iaload, 1) := by decide +kernel
theorem dX9_printCustomer_69 : decode cX9_printCustomer 69 = .ok (.ifCond .ne 8, 3) := by decide +kernel
theorem dX9_printCustomer_72 : decode cX9_printCustomer 72 = .ok (.bipush 114, 2) := by decide +kernel
theorem dX9_printCustomer_74 : decode cX9_printCustomer 74 = .ok (.goto 22, 3) := by decide +kernel
theorem dX9_printCustomer_77 : decode cX9_printCustomer 77 = .ok (.aload_n 0, 1) := by decide +kernel
theorem dX9_printCustomer_78 : decode cX9_printCustomer 78 = .ok (.getfield 7, 3) := by decide +kernel
theorem dX9_printCustomer_81 : decode cX9_printCustomer 81 = .ok (.iload_n 1, 1) := by decide +kernel
theorem dX9_printCustomer_82 : decode cX9_printCustomer 82 = .ok (.iconst 1, 1) := by decide +kernel
theorem dX9_printCustomer_83 : decode cX9_printCustomer 83 = .ok (.iadd, 1) := by decide +kernel
theorem dX9_printCustomer_84 : decode cX9_printCustomer 84 = .ok (.iaload, 1) := by decide +kernel
theorem dX9_printCustomer_85 : decode cX9_printCustomer 85 = .ok (.iconst 1, 1) := by decide +kernel
theorem dX9_printCustomer_86 : decode cX9_printCustomer 86 = .ok (.if_icmp .ne 8, 3) := by decide +kernel
theorem dX9_printCustomer_89 : decode cX9_printCustomer 89 = .ok (.bipush 119, 2) := by decide +kernel
theorem dX9_printCustomer_91 : decode cX9_printCustomer 91 = .ok (.goto 5, 3) := by decide +kernel
theorem dX9_printCustomer_94 : decode cX9_printCustomer 94 = .ok (.bipush 111, 2) := by decide +kernel
theorem dX9_printCustomer_96 : decode cX9_printCustomer 96 = .ok (.invokevirtual 353, 3) := by decide +kernel
theorem dX9_printCustomer_99 : decode cX9_printCustomer 99 = .ok (.aload_n 0, 1) := by decide +kernel
theorem dX9_printCustomer_100 : decode cX9_printCustomer 100 = .ok (.bipush 64, 2) := by decide +kernel
theorem dX9_printCustomer_102 : decode cX9_printCustomer 102 = .ok (.invokevirtual 353, 3) := by decide +kernel
theorem dX9_printCustomer_105 : decode cX9_printCustomer 105 = .ok (.aload_n 0, 1) := by decide +kernel
theorem dX9_printCustomer_106 : decode cX9_printCustomer 106 = .ok (.aload_n 0, 1) := by decide +kernel
theorem dX9_printCustomer_107 : decode cX9_printCustomer 107 = .ok (.getfield 7, 3) := by decide +kernel
theorem dX9_printCustomer_110 : decode cX9_printCustomer 110 = .ok (.iload_n 1, 1) := by decide +kernel
theorem dX9_printCustomer_111 : decode cX9_printCustomer 111 = .ok (.iconst 3, 1) := by decide +kernel
theorem dX9_printCustomer_112 : decode cX9_printCustomer 112 = .ok (.iadd, 1) := by decide +kernel
theorem dX9_printCustomer_113 : decode cX9_printCustomer 113 = .ok (.iaload, 1) := by decide +kernel
theorem dX9_printCustomer_114 : decode cX9_printCustomer 114 = .ok (.invokevirtual 356, 3) := by decide +kernel
theorem dX9_printCustomer_117 : decode cX9_printCustomer 117 = .ok (.return_, 1) := by decide +kernel
theorem dX9_writeQueue_0 : decode cX9_writeQueue 0 = .ok (.aload_n 0, 1) := by decide +kernel
theorem dX9_writeQueue_1 : decode cX9_writeQueue 1 = .ok (.iconst 0, 1) := by decide +kernel
theorem dX9_writeQueue_2 : decode cX9_writeQueue 2 = .ok (.putfield 75, 3) := by decide +kernel
theorem dX9_writeQueue_5 : decode cX9_writeQueue 5 = .ok (.aload_n 0, 1) := by decide +kernel
theorem dX9_writeQueue_6 : decode cX9_writeQueue 6 = .ok (.iconst 0, 1) := by decide +kernel
theorem dX9_writeQueue_7 : decode cX9_writeQueue 7 = .ok (.putfield 350, 3) := by decide +kernel
theorem dX9_writeQueue_10 : decode cX9_writeQueue 10 = .ok (.iconst 0, 1) := by decide +kernel
theorem dX9_writeQueue_11 : decode cX9_writeQueue 11 = .ok (.istore_n 1, 1) := by decide +kernel
theorem dX9_writeQueue_12 : decode cX9_writeQueue 12 = .ok (.iload_n 1, 1) := by decide +kernel
theorem dX9_writeQueue_13 : decode cX9_writeQueue 13 = .ok (.aload_n 0, 1) := by decide +kernel
theorem dX9_writeQueue_14 : decode cX9_writeQueue 14 = .ok (.getfield 7, 3) := by decide +kernel
theorem dX9_writeQueue_17 : decode cX9_writeQueue 17 = .ok (.iconst 2, 1) := by decide +kernel
theorem dX9_writeQueue_18 : decode cX9_writeQueue 18 = .ok (.iaload, 1) := by decide +kernel
theorem dX9_writeQueue_19 : decode cX9_writeQueue 19 = .ok (.if_icmp .ge 27, 3) := by decide +kernel
theorem dX9_writeQueue_22 : decode cX9_writeQueue 22 = .ok (.iload_n 1, 1) := by decide +kernel
theorem dX9_writeQueue_23 : decode cX9_writeQueue 23 = .ok (.ifCond .le 9, 3) := by decide +kernel
theorem dX9_writeQueue_26 : decode cX9_writeQueue 26 = .ok (.aload_n 0, 1) := by decide +kernel
theorem dX9_writeQueue_27 : decode cX9_writeQueue 27 = .ok (.bipush 32, 2) := by decide +kernel
theorem dX9_writeQueue_29 : decode cX9_writeQueue 29 = .ok (.invokevirtual 353, 3) := by decide +kernel
theorem dX9_writeQueue_32 : decode cX9_writeQueue 32 = .ok (.aload_n 0, 1) := by decide +kernel
theorem dX9_writeQueue_33 : decode cX9_writeQueue 33 = .ok (.iload_n 1, 1) := by decide +kernel
theorem dX9_writeQueue_34 : decode cX9_writeQueue 34 = .ok (.invokestatic 111, 3) := by decide +kernel
theorem dX9_writeQueue_37 : decode cX9_writeQueue 37 = .ok (.invokevirtual 359, 3) := by decide +kernel
theorem dX9_writeQueue_40 : decode cX9_writeQueue 40 = .ok (.iinc 1 1, 3) := by decide +kernel
theorem dX9_writeQueue_43 : decode cX9_writeQueue 43 = .ok (.goto (-31), 3) := by decide +kernel
theorem dX9_writeQueue_46 : decode cX9_writeQueue 46 = .ok (.aload_n 0, 1) := by decide +kernel
theorem dX9_writeQueue_47 : decode cX9_writeQueue 47 = .ok (.getfield 350, 3) := by decide +kernel
theorem dX9_writeQueue_50 : decode cX9_writeQueue 50 = .ok (.ireturn, 1) := by decide +kernel
theorem dX9_outputByte_0 : decode cX9_outputByte 0 = .ok (.aload_n 0, 1) := by decide +kernel
theorem dX9_outputByte_1 : decode cX9_outputByte 1 = .ok (.iload_n 1, 1) := by decide +kernel
theorem dX9_outputByte_2 : decode cX9_outputByte 2 = .ok (.iconst 0, 1) := by decide +kernel
theorem dX9_outputByte_3 : decode cX9_outputByte 3 = .ok (.aload_n 0, 1) := by decide +kernel
theorem dX9_outputByte_4 : decode cX9_outputByte 4 = .ok (.getfield 350, 3) := by decide +kernel
theorem dX9_outputByte_7 : decode cX9_outputByte 7 = .ok (.iconst 1, 1) := by decide +kernel
theorem dX9_outputByte_8 : decode cX9_outputByte 8 = .ok (.isub, 1) := by decide +kernel
theorem dX9_outputByte_9 : decode cX9_outputByte 9 = .ok (.invokevirtual 176, 3) := by decide +kernel
theorem dX9_outputByte_12 : decode cX9_outputByte 12 = .ok (.ifCond .eq 7, 3) := by decide +kernel
theorem dX9_outputByte_15 : decode cX9_outputByte 15 = .ok (.iconst 0, 1) := by decide +kernel
theorem dX9_outputByte_16 : decode cX9_outputByte 16 = .ok (.goto 9, 3) := by decide +kernel
theorem dX9_outputByte_19 : decode cX9_outputByte 19 = .ok (.aload_n 0, 1) := by decide +kernel
theorem dX9_outputByte_20 : decode cX9_outputByte 20 = .ok (.getfield 45, 3) := by decide +kernel
theorem dX9_outputByte_23 : decode cX9_outputByte 23 = .ok (.iload_n 1, 1) := by decide +kernel
theorem dX9_outputByte_24 : decode cX9_outputByte 24 = .ok (.baload, 1) := by decide +kernel
theorem dX9_outputByte_25 : decode cX9_outputByte 25 = .ok (.ireturn, 1) := by decide +kernel
theorem dX9_save_0 : decode cX9_save 0 = .ok (.aload_n 0, 1) := by decide +kernel
theorem dX9_save_1 : decode cX9_save 1 = .ok (.iload_n 1, 1) := by decide +kernel
theorem dX9_save_2 : decode cX9_save 2 = .ok (.iconst 0, 1) := by decide +kernel
theorem dX9_save_3 : decode cX9_save 3 = .ok (.iconst 1, 1) := by decide +kernel
theorem dX9_save_4 : decode cX9_save 4 = .ok (.invokevirtual 176, 3) := by decide +kernel
theorem dX9_save_7 : decode cX9_save 7 = .ok (.ifCond .eq 5, 3) := by decide +kernel
theorem dX9_save_10 : decode cX9_save 10 = .ok (.iconst 0, 1) := by decide +kernel
theorem dX9_save_11 : decode cX9_save 11 = .ok (.ireturn, 1) := by decide +kernel
theorem dX9_save_12 : decode cX9_save 12 = .ok (.aload_n 0, 1) := by decide +kernel
theorem dX9_save_13 : decode cX9_save 13 = .ok (.getfield 7, 3) := by decide +kernel
theorem dX9_save_16 : decode cX9_save 16 = .ok (.iconst 0, 1) := by decide +kernel
theorem dX9_save_17 : decode cX9_save 17 = .ok (.aload_n 0, 1) := by decide +kernel
theorem dX9_save_18 : decode cX9_save 18 = .ok (.getfield 22, 3) := by decide +kernel
theorem dX9_save_21 : decode cX9_save 21 = .ok (.sipush 380, 3) := by decide +kernel
theorem dX9_save_24 : decode cX9_save 24 = .ok (.iload_n 1, 1) := by decide +kernel
theorem dX9_save_25 : decode cX9_save 25 = .ok (.imul, 1) := by decide +kernel
theorem dX9_save_26 : decode cX9_save 26 = .ok (.invokestatic 61, 3) := by decide +kernel
theorem dX9_save_29 : decode cX9_save 29 = .ok (.aload_n 0, 1) := by decide +kernel
theorem dX9_save_30 : decode cX9_save 30 = .ok (.getfield 25, 3) := by decide +kernel
theorem dX9_save_33 : decode cX9_save 33 = .ok (.iload_n 1, 1) := by decide +kernel
theorem dX9_save_34 : decode cX9_save 34 = .ok (.iconst 1, 1) := by decide +kernel
theorem dX9_save_35 : decode cX9_save 35 = .ok (.bastore, 1) := by decide +kernel
theorem dX9_save_36 : decode cX9_save 36 = .ok (.aload_n 0, 1) := by decide +kernel
theorem dX9_save_37 : decode cX9_save 37 = .ok (.getfield 7, 3) := by decide +kernel
theorem dX9_save_40 : decode cX9_save 40 = .ok (.iconst 0, 1) := by decide +kernel
theorem dX9_save_41 : decode cX9_save 41 = .ok (.iaload, 1) := by decide +kernel
theorem dX9_save_42 : decode cX9_save 42 = .ok (.ireturn, 1) := by decide +kernel
theorem dX9_restore_0 : decode cX9_restore 0 = .ok (.aload_n 0, 1) := by decide +kernel
theorem dX9_restore_1 : decode cX9_restore 1 = .ok (.iload_n 1, 1) := by decide +kernel
theorem dX9_restore_2 : decode cX9_restore 2 = .ok (.iconst 0, 1) := by decide +kernel
theorem dX9_restore_3 : decode cX9_restore 3 = .ok (.iconst 1, 1) := by decide +kernel
theorem dX9_restore_4 : decode cX9_restore 4 = .ok (.invokevirtual 176, 3) := by decide +kernel
theorem dX9_restore_7 : decode cX9_restore 7 = .ok (.ifCond .ne 25, 3) := by decide +kernel
theorem dX9_restore_10 : decode cX9_restore 10 = .ok (.aload_n 0, 1) := by decide +kernel
theorem dX9_restore_11 : decode cX9_restore 11 = .ok (.aload_n 0, 1) := by decide +kernel
theorem dX9_restore_12 : decode cX9_restore 12 = .ok (.getfield 25, 3) := by decide +kernel
theorem dX9_restore_15 : decode cX9_restore 15 = .ok (.iload_n 1, 1) := by decide +kernel
theorem dX9_restore_16 : decode cX9_restore 16 = .ok (.baload, 1) := by decide +kernel
theorem dX9_restore_17 : decode cX9_restore 17 = .ok (.ifCond .ne 7, 3) := by decide +kernel
theorem dX9_restore_20 : decode cX9_restore 20 = .ok (.iconst 1, 1) := by decide +kernel
theorem dX9_restore_21 : decode cX9_restore 21 = .ok (.goto 4, 3) := by decide +kernel
theorem dX9_restore_24 : decode cX9_restore 24 = .ok (.iconst 0, 1) := by decide +kernel
theorem dX9_restore_25 : decode cX9_restore 25 = .ok (.iconst 2, 1) := by decide +kernel
theorem dX9_restore_26 : decode cX9_restore 26 = .ok (.invokevirtual 168, 3) := by decide +kernel
theorem dX9_restore_29 : decode cX9_restore 29 = .ok (.ifCond .eq 5, 3) := by decide +kernel
theorem dX9_restore_32 : decode cX9_restore 32 = .ok (.iconst 0, 1) := by decide +kernel
theorem dX9_restore_33 : decode cX9_restore 33 = .ok (.ireturn, 1) := by decide +kernel
theorem dX9_restore_34 : decode cX9_restore 34 = .ok (.aload_n 0, 1) := by decide +kernel
theorem dX9_restore_35 : decode cX9_restore 35 = .ok (.invokevirtual 305, 3) := by decide +kernel
theorem dX9_restore_38 : decode cX9_restore 38 = .ok (.aload_n 0, 1) := by decide +kernel
theorem dX9_restore_39 : decode cX9_restore 39 = .ok (.getfield 22, 3) := by decide +kernel
theorem dX9_restore_42 : decode cX9_restore 42 = .ok (.sipush 380, 3) := by decide +kernel
theorem dX9_restore_45 : decode cX9_restore 45 = .ok (.iload_n 1, 1) := by decide +kernel
theorem dX9_restore_46 : decode cX9_restore 46 = .ok (.imul, 1) := by decide +kernel
theorem dX9_restore_47 : decode cX9_restore 47 = .ok (.aload_n 0, 1) := by decide +kernel
theorem dX9_restore_48 : decode cX9_restore 48 = .ok (.getfield 7, 3) := by decide +kernel
theorem dX9_restore_51 : decode cX9_restore 51 = .ok (.iconst 0, 1) := by decide +kernel
theorem dX9_restore_52 : decode cX9_restore 52 = .ok (.invokestatic 61, 3) := by decide +kernel
theorem dX9_restore_55 : decode cX9_restore 55 = .ok (.aload_n 0, 1) := by decide +kernel
theorem dX9_restore_56 : decode cX9_restore 56 = .ok (.getfield 7, 3) := by decide +kernel
theorem dX9_restore_59 : decode cX9_restore 59 = .ok (.iconst 0, 1) := by decide +kernel
theorem dX9_restore_60 : decode cX9_restore 60 = .ok (.iaload, 1) := by decide +kernel
theorem dX9_restore_61 : decode cX9_restore 61 = .ok (.ireturn, 1) := by decide +kernel
theorem dJ0_length_8abf5_0 : decode cJ0_length_8abf5 0 = .ok (.aload_n 0, 1) := by decide +kernel
theorem dJ0_length_8abf5_1 : decode cJ0_length_8abf5 1 = .ok (.getfield 9, 3) := by decide +kernel
theorem dJ0_length_8abf5_4 : decode cJ0_length_8abf5 4 = .ok (.arraylength, 1) := by decide +kernel
theorem dJ0_length_8abf5_5 : decode cJ0_length_8abf5 5 = .ok (.aload_n 0, 1) := by decide +kernel
theorem dJ0_length_8abf5_6 : decode cJ0_length_8abf5 6 = .ok (.invokevirtual 335, 3) := by decide +kernel
theorem dJ0_length_8abf5_9 : decode cJ0_length_8abf5 9 = .ok (.ishr, 1) := by decide +kernel
theorem dJ0_length_8abf5_10 : decode cJ0_length_8abf5 10 = .ok (.ireturn, 1) := by decide +kernel
theorem dJ0_charAt_5068e_0 : decode cJ0_charAt_5068e 0 = .ok (.aload_n 0, 1) := by decide +kernel
theorem dJ0_charAt_5068e_1 : decode cJ0_charAt_5068e 1 = .ok (.invokevirtual 492, 3) := by decide +kernel
theorem dJ0_charAt_5068e_4 : decode cJ0_charAt_5068e 4 = .ok (.ifCond .eq 12, 3) := by decide +kernel
theorem dJ0_charAt_5068e_7 : decode cJ0_charAt_5068e 7 = .ok (.aload_n 0, 1) := by decide +kernel
theorem dJ0_charAt_5068e_8 : decode cJ0_charAt_5068e 8 = .ok (.getfield 9, 3) := by decide +kernel
theorem dJ0_charAt_5068e_11 : decode cJ0_charAt_5068e 11 = .ok (.iload_n 1, 1) := by decide +kernel
theorem dJ0_charAt_5068e_12 : decode cJ0_charAt_5068e 12 = .ok (.invokestatic 495, 3) := by decide +kernel
theorem dJ0_charAt_5068e_15 : decode cJ0_charAt_5068e 15 = .ok (.ireturn, 1) := by decide +kernel
theorem dJ0_charAt_5068e_16 : decode cJ0_charAt_5068e 16 = .ok (.aload_n 0, 1) := by decide +kernel
theorem dJ0_charAt_5068e_17 : decode cJ0_charAt_5068e 17 = .ok (.getfield 9, 3) := by decide +kernel
theorem dJ0_charAt_5068e_20 : decode cJ0_charAt_5068e 20 = .ok (.iload_n 1, 1) := by decide +kernel
theorem dJ0_charAt_5068e_21 : decode cJ0_charAt_5068e 21 = .ok (.invokestatic 498, 3) := by decide +kernel
theorem dJ0_charAt_5068e_24 : decode cJ0_charAt_5068e 24 = .ok (.ireturn, 1) := by decide +kernel
theorem dJ0_coder_7d493_0 : decode cJ0_coder_7d493 0 = .ok (.getstatic 38, 3) := by decide +kernel
theorem dJ0_coder_7d493_3 : decode cJ0_coder_7d493 3 = .ok (.ifCond .eq 10, 3) := by decide +kernel
theorem dJ0_coder_7d493_6 : decode cJ0_coder_7d493 6 = .ok (.aload_n 0, 1) := by decide +kernel
theorem dJ0_coder_7d493_7 : decode cJ0_coder_7d493 7 = .ok (.getfield 15, 3) := by decide +kernel
theorem dJ0_coder_7d493_10 : decode cJ0_coder_7d493 10 = .ok (.goto 4, 3) := by decide +kernel
theorem dJ0_coder_7d493_13 : decode cJ0_coder_7d493 13 = .ok (.iconst 1, 1) := by decide +kernel
theorem dJ0_coder_7d493_14 : decode cJ0_coder_7d493 14 = .ok (.ireturn, 1) := by decide +kernel
theorem dJ0_isLatin1_aae02_0 : decode cJ0_isLatin1_aae02 0 = .ok (.getstatic 38, 3) := by decide +kernel
theorem dJ0_isLatin1_aae02_3 : decode cJ0_isLatin1_aae02 3 = .ok (.ifCond .eq 14, 3) := by decide +kernel
theorem dJ0_isLatin1_aae02_6 : decode cJ0_isLatin1_aae02 6 = .ok (.aload_n 0, 1) := by decide +kernel
theorem dJ0_isLatin1_aae02_7 : decode cJ0_isLatin1_aae02 7 = .ok (.getfield 15, 3) := by decide +kernel
theorem dJ0_isLatin1_aae02_10 : decode cJ0_isLatin1_aae02 10 = .ok (.ifCond .ne 7, 3) := by decide +kernel
theorem dJ0_isLatin1_aae02_13 : decode cJ0_isLatin1_aae02 13 = .ok (.iconst 1, 1) := by decide +kernel
theorem dJ0_isLatin1_aae02_14 : decode cJ0_isLatin1_aae02 14 = .ok (.goto 4, 3) := by decide +kernel
theorem dJ0_isLatin1_aae02_17 : decode cJ0_isLatin1_aae02 17 = .ok (.iconst 0, 1) := by decide +kernel
theorem dJ0_isLatin1_aae02_18 : decode cJ0_isLatin1_aae02 18 = .ok (.ireturn, 1) := by decide +kernel
theorem dJ0_checkIndex_df160_0 : decode cJ0_checkIndex_df160 0 = .ok (.iload_n 0, 1) := by decide +kernel
theorem dJ0_checkIndex_df160_1 : decode cJ0_checkIndex_df160 1 = .ok (.iload_n 1, 1) := by decide +kernel
theorem dJ0_checkIndex_df160_2 : decode cJ0_checkIndex_df160 2 = .ok (.getstatic 1053, 3) := by decide +kernel
theorem dJ0_checkIndex_df160_5 : decode cJ0_checkIndex_df160 5 = .ok (.invokestatic 1059, 3) := by decide +kernel
theorem dJ0_checkIndex_df160_8 : decode cJ0_checkIndex_df160 8 = .ok (.pop, 1) := by decide +kernel
theorem dJ0_checkIndex_df160_9 : decode cJ0_checkIndex_df160 9 = .ok (.return_, 1) := by decide +kernel
theorem dJ1_charAt_3b067_0 : decode cJ1_charAt_3b067 0 = .ok (.iload_n 1, 1) := by decide +kernel
theorem dJ1_charAt_3b067_1 : decode cJ1_charAt_3b067 1 = .ok (.aload_n 0, 1) := by decide +kernel
theorem dJ1_charAt_3b067_2 : decode cJ1_charAt_3b067 2 = .ok (.arraylength, 1) := by decide +kernel
theorem dJ1_charAt_3b067_3 : decode cJ1_charAt_3b067 3 = .ok (.invokestatic 9, 3) := by decide +kernel
theorem dJ1_charAt_3b067_6 : decode cJ1_charAt_3b067 6 = .ok (.aload_n 0, 1) := by decide +kernel
theorem dJ1_charAt_3b067_7 : decode cJ1_charAt_3b067 7 = .ok (.iload_n 1, 1) := by decide +kernel
theorem dJ1_charAt_3b067_8 : decode cJ1_charAt_3b067 8 = .ok (.baload, 1) := by decide +kernel
theorem dJ1_charAt_3b067_9 : decode cJ1_charAt_3b067 9 = .ok (.sipush 255, 3) := by decide +kernel
theorem dJ1_charAt_3b067_12 : decode cJ1_charAt_3b067 12 = .ok (.iand, 1) := by decide +kernel
theorem dJ1_charAt_3b067_13 : decode cJ1_charAt_3b067 13 = .ok (.i2c, 1) := by decide +kernel
theorem dJ1_charAt_3b067_14 : decode cJ1_charAt_3b067 14 = .ok (.ireturn, 1) := by decide +kernel
theorem dJ2_getChar_3b067_0 : decode cJ2_getChar_3b067 0 = .ok (.getstatic 44, 3) := by decide +kernel
theorem dJ2_getChar_3b067_3 : decode cJ2_getChar_3b067 3 = .ok (.ifCond .ne 25, 3) := by decide +kernel
theorem dJ2_getChar_3b067_6 : decode cJ2_getChar_3b067 6 = .ok (.iload_n 1, 1) := by decide +kernel
theorem dJ2_getChar_3b067_7 : decode cJ2_getChar_3b067 7 = .ok (.ifCond .lt 11, 3) := by decide +kernel
theorem dJ2_getChar_3b067_10 : decode cJ2_getChar_3b067 10 = .ok (.iload_n 1, 1) := by decide +kernel
theorem dJ2_getChar_3b067_11 : decode cJ2_getChar_3b067 11 = .ok (.aload_n 0, 1) := by decide +kernel
theorem dJ2_getChar_3b067_12 : decode cJ2_getChar_3b067 12 = .ok (.invokestatic 48, 3) := by decide +kernel
theorem dJ2_getChar_3b067_15 : decode cJ2_getChar_3b067 15 = .ok (.if_icmp .lt 13, 3) := by decide +kernel
theorem dJ2_getChar_3b067_18 : decode cJ2_getChar_3b067 18 = .ok (.new 52, 3) := by decide +kernel
theorem dJ2_getChar_3b067_21 : decode cJ2_getChar_3b067 21 = .ok (.dup, 1) := by decide +kernel
theorem dJ2_getChar_3b067_22 : decode cJ2_getChar_3b067 22 = .ok (.ldc 54, 2) := by decide +kernel
theorem dJ2_getChar_3b067_24 : decode cJ2_getChar_3b067 24 = .ok (.invokespecial 56, 3) := by decide +kernel
theorem dJ2_getChar_3b067_27 : decode cJ2_getChar_3b067 27 = .ok (.athrow, 1) := by decide +kernel
theorem dJ2_getChar_3b067_28 : decode cJ2_getChar_3b067 28 = .ok (.iload_n 1, 1) := by decide +kernel
theorem dJ2_getChar_3b067_29 : decode cJ2_getChar_3b067 29 = .ok (.iconst 1, 1) := by decide +kernel
theorem dJ2_getChar_3b067_30 : decode cJ2_getChar_3b067 30 = .ok (.ishl, 1) := by decide +kernel
theorem dJ2_getChar_3b067_31 : decode cJ2_getChar_3b067 31 = .ok (.istore_n 1, 1) := by decide +kernel
theorem dJ2_getChar_3b067_32 : decode cJ2_getChar_3b067 32 = .ok (.aload_n 0, 1) := by decide +kernel
theorem dJ2_getChar_3b067_33 : decode cJ2_getChar_3b067 33 = .ok (.iload_n 1, 1) := by decide +kernel
theorem dJ2_getChar_3b067_34 : decode cJ2_getChar_3b067 34 = .ok (.iinc 1 1, 3) := by decide +kernel
theorem dJ2_getChar_3b067_37 : decode cJ2_getChar_3b067 37 = .ok (.baload, 1) := by decide +kernel
theorem dJ2_getChar_3b067_38 : decode cJ2_getChar_3b067 38 = .ok (.sipush 255, 3) := by decide +kernel
theorem dJ2_getChar_3b067_41 : decode cJ2_getChar_3b067 41 = .ok (.iand, 1) := by decide +kernel
theorem dJ2_getChar_3b067_42 : decode cJ2_getChar_3b067 42 = .ok (.getstatic 59, 3) := by decide +kernel
theorem dJ2_getChar_3b067_45 : decode cJ2_getChar_3b067 45 = .ok (.ishl, 1) := by decide +kernel
theorem dJ2_getChar_3b067_46 : decode cJ2_getChar_3b067 46 = .ok (.aload_n 0, 1) := by decide +kernel
theorem dJ2_getChar_3b067_47 : decode cJ2_getChar_3b067 47 = .ok (.iload_n 1, 1) := by decide +kernel
theorem dJ2_getChar_3b067_48 : decode cJ2_getChar_3b067 48 = .ok (.baload, 1) := by decide +kernel
theorem dJ2_getChar_3b067_49 : decode cJ2_getChar_3b067 49 = .ok (.sipush 255, 3) := by decide +kernel
theorem dJ2_getChar_3b067_52 : decode cJ2_getChar_3b067 52 = .ok (.iand, 1) := by decide +kernel
theorem dJ2_getChar_3b067_53 : decode cJ2_getChar_3b067 53 = .ok (.getstatic 63, 3) := by decide +kernel
theorem dJ2_getChar_3b067_56 : decode cJ2_getChar_3b067 56 = .ok (.ishl, 1) := by decide +kernel
theorem dJ2_getChar_3b067_57 : decode cJ2_getChar_3b067 57 = .ok (.ior, 1) := by decide +kernel
theorem dJ2_getChar_3b067_58 : decode cJ2_getChar_3b067 58 = .ok (.i2c, 1) := by decide +kernel
theorem dJ2_getChar_3b067_59 : decode cJ2_getChar_3b067 59 = .ok (.ireturn, 1) := by decide +kernel
theorem dJ2_length_9d52b_0 : decode cJ2_length_9d52b 0 = .ok (.aload_n 0, 1) := by decide +kernel
theorem dJ2_length_9d52b_1 : decode cJ2_length_9d52b 1 = .ok (.arraylength, 1) := by decide +kernel
theorem dJ2_length_9d52b_2 : decode cJ2_length_9d52b 2 = .ok (.iconst 1, 1) := by decide +kernel
theorem dJ2_length_9d52b_3 : decode cJ2_length_9d52b 3 = .ok (.ishr, 1) := by decide +kernel
theorem dJ2_length_9d52b_4 : decode cJ2_length_9d52b 4 = .ok (.ireturn, 1) := by decide +kernel
theorem dJ2_charAt_3b067_0 : decode cJ2_charAt_3b067 0 = .ok (.iload_n 1, 1) := by decide +kernel
theorem dJ2_charAt_3b067_1 : decode cJ2_charAt_3b067 1 = .ok (.aload_n 0, 1) := by decide +kernel
theorem dJ2_charAt_3b067_2 : decode cJ2_charAt_3b067 2 = .ok (.invokestatic 67, 3) := by decide +kernel
theorem dJ2_charAt_3b067_5 : decode cJ2_charAt_3b067 5 = .ok (.aload_n 0, 1) := by decide +kernel
theorem dJ2_charAt_3b067_6 : decode cJ2_charAt_3b067 6 = .ok (.iload_n 1, 1) := by decide +kernel
theorem dJ2_charAt_3b067_7 : decode cJ2_charAt_3b067 7 = .ok (.invokestatic 71, 3) := by decide +kernel
theorem dJ2_charAt_3b067_10 : decode cJ2_charAt_3b067 10 = .ok (.ireturn, 1) := by decide +kernel
theorem dJ2_checkIndex_2214a_0 : decode cJ2_checkIndex_2214a 0 = .ok (.iload_n 0, 1) := by decide +kernel
theorem dJ2_checkIndex_2214a_1 : decode cJ2_checkIndex_2214a 1 = .ok (.aload_n 1, 1) := by decide +kernel
theorem dJ2_checkIndex_2214a_2 : decode cJ2_checkIndex_2214a 2 = .ok (.invokestatic 48, 3) := by decide +kernel
theorem dJ2_checkIndex_2214a_5 : decode cJ2_checkIndex_2214a 5 = .ok (.invokestatic 414, 3) := by decide +kernel
theorem dJ2_checkIndex_2214a_8 : decode cJ2_checkIndex_2214a 8 = .ok (.return_, 1) := by decide +kernel
theorem dJ3_checkIndex_8e157_0 : decode cJ3_checkIndex_8e157 0 = .ok (.iload_n 0, 1) := by decide +kernel
theorem dJ3_checkIndex_8e157_1 : decode cJ3_checkIndex_8e157 1 = .ok (.ifCond .lt 8, 3) := by decide +kernel
theorem dJ3_checkIndex_8e157_4 : decode cJ3_checkIndex_8e157 4 = .ok (.iload_n 0, 1) := by decide +kernel
theorem dJ3_checkIndex_8e157_5 : decode cJ3_checkIndex_8e157 5 = .ok (.iload_n 1, 1) := by decide +kernel
theorem dJ3_checkIndex_8e157_6 : decode cJ3_checkIndex_8e157 6 = .ok (.if_icmp .lt 10, 3) := by decide +kernel
theorem dJ3_checkIndex_8e157_9 : decode cJ3_checkIndex_8e157 9 = .ok (.aload_n 2, 1) := by decide +kernel
theorem dJ3_checkIndex_8e157_10 : decode cJ3_checkIndex_8e157 10 = .ok (.iload_n 0, 1) := by decide +kernel
theorem dJ3_checkIndex_8e157_11 : decode cJ3_checkIndex_8e157 11 = .ok (.iload_n 1, 1) := by decide +kernel
theorem dJ3_checkIndex_8e157_12 : decode cJ3_checkIndex_8e157 12 = .ok (.invokestatic 95, 3) := by decide +kernel
theorem dJ3_checkIndex_8e157_15 : decode cJ3_checkIndex_8e157 15 = .ok (.athrow, 1) := by decide +kernel
theorem dJ3_checkIndex_8e157_16 : decode cJ3_checkIndex_8e157 16 = .ok (.iload_n 0, 1) := by decide +kernel
theorem dJ3_checkIndex_8e157_17 : decode cJ3_checkIndex_8e157 17 = .ok (.ireturn, 1) := by decide +kernel
theorem dL_appendInput_0 : decode cL_appendInput 0 = .ok (.aload 6, 2) := by decide +kernel
theorem dL_appendInput_2 : decode cL_appendInput 2 = .ok (.iconst 0, 1) := by decide +kernel
theorem dL_appendInput_3 : decode cL_appendInput 3 = .ok (.aload_n 0, 1) := by decide +kernel
theorem dL_appendInput_4 : decode cL_appendInput 4 = .ok (.iload_n 1, 1) := by decide +kernel
theorem dL_appendInput_5 : decode cL_appendInput 5 = .ok (.iload_n 2, 1) := by decide +kernel
theorem dL_appendInput_6 : decode cL_appendInput 6 = .ok (.iload_n 3, 1) := by decide +kernel
theorem dL_appendInput_7 : decode cL_appendInput 7 = .ok (.iload 4, 2) := by decide +kernel
theorem dL_appendInput_9 : decode cL_appendInput 9 = .ok (.iload 5, 2) := by decide +kernel
theorem dL_appendInput_11 : decode cL_appendInput 11 = .ok (.invokevirtual 7, 3) := by decide +kernel
theorem dL_appendInput_14 : decode cL_appendInput 14 = .ok (.i2l, 1) := by decide +kernel
theorem dL_appendInput_15 : decode cL_appendInput 15 = .ok (.lastore, 1) := by decide +kernel
theorem dL_appendInput_16 : decode cL_appendInput 16 = .ok (.goto 7, 3) := by decide +kernel
theorem dL_appendInput_19 : decode cL_appendInput 19 = .ok (.astore 7, 2) := by decide +kernel
theorem dL_appendInput_21 : decode cL_appendInput 21 = .ok (.iconst 1, 1) := by decide +kernel
theorem dL_appendInput_22 : decode cL_appendInput 22 = .ok (.ireturn, 1) := by decide +kernel
theorem dL_appendInput_23 : decode cL_appendInput 23 = .ok (.iconst 0, 1) := by decide +kernel
theorem dL_appendInput_24 : decode cL_appendInput 24 = .ok (.ireturn, 1) := by decide +kernel
theorem dL_truncateInput_0 : decode cL_truncateInput 0 = .ok (.aload_n 2, 1) := by decide +kernel
theorem dL_truncateInput_1 : decode cL_truncateInput 1 = .ok (.iconst 0, 1) := by decide +kernel
theorem dL_truncateInput_2 : decode cL_truncateInput 2 = .ok (.aload_n 0, 1) := by decide +kernel
theorem dL_truncateInput_3 : decode cL_truncateInput 3 = .ok (.iload_n 1, 1) := by decide +kernel
theorem dL_truncateInput_4 : decode cL_truncateInput 4 = .ok (.invokevirtual 15, 3) := by decide +kernel
theorem dL_truncateInput_7 : decode cL_truncateInput 7 = .ok (.i2l, 1) := by decide +kernel
theorem dL_truncateInput_8 : decode cL_truncateInput 8 = .ok (.lastore, 1) := by decide +kernel
theorem dL_truncateInput_9 : decode cL_truncateInput 9 = .ok (.goto 6, 3) := by decide +kernel
theorem dL_truncateInput_12 : decode cL_truncateInput 12 = .ok (.astore_n 3, 1) := by decide +kernel
theorem dL_truncateInput_13 : decode cL_truncateInput 13 = .ok (.iconst 1, 1) := by decide +kernel
theorem dL_truncateInput_14 : decode cL_truncateInput 14 = .ok (.ireturn, 1) := by decide +kernel
theorem dL_truncateInput_15 : decode cL_truncateInput 15 = .ok (.iconst 0, 1) := by decide +kernel
theorem dL_truncateInput_16 : decode cL_truncateInput 16 = .ok (.ireturn, 1) := by decide +kernel
theorem dL_load_0 : decode cL_load 0 = .ok (.aload_n 1, 1) := by decide +kernel
theorem dL_load_1 : decode cL_load 1 = .ok (.iconst 0, 1) := by decide +kernel
theorem dL_load_2 : decode cL_load 2 = .ok (.aload_n 0, 1) := by decide +kernel
theorem dL_load_3 : decode cL_load 3 = .ok (.invokevirtual 21, 3) := by decide +kernel
theorem dL_load_6 : decode cL_load 6 = .ok (.i2l, 1) := by decide +kernel
theorem dL_load_7 : decode cL_load 7 = .ok (.lastore, 1) := by decide +kernel
theorem dL_load_8 : decode cL_load 8 = .ok (.goto 6, 3) := by decide +kernel
theorem dL_load_11 : decode cL_load 11 = .ok (.astore_n 2, 1) := by decide +kernel
theorem dL_load_12 : decode cL_load 12 = .ok (.iconst 1, 1) := by decide +kernel
theorem dL_load_13 : decode cL_load 13 = .ok (.ireturn, 1) := by decide +kernel
theorem dL_load_14 : decode cL_load 14 = .ok (.iconst 0, 1) := by decide +kernel
theorem dL_load_15 : decode cL_load 15 = .ok (.ireturn, 1) := by decide +kernel
theorem dL_bakerNameByte_0 : decode cL_bakerNameByte 0 = .ok (.aload_n 3, 1) := by decide +kernel
theorem dL_bakerNameByte_1 : decode cL_bakerNameByte 1 = .ok (.iconst 0, 1) := by decide +kernel
theorem dL_bakerNameByte_2 : decode cL_bakerNameByte 2 = .ok (.aload_n 0, 1) := by decide +kernel
theorem dL_bakerNameByte_3 : decode cL_bakerNameByte 3 = .ok (.iload_n 1, 1) := by decide +kernel
theorem dL_bakerNameByte_4 : decode cL_bakerNameByte 4 = .ok (.iload_n 2, 1) := by decide +kernel
theorem dL_bakerNameByte_5 : decode cL_bakerNameByte 5 = .ok (.invokevirtual 25, 3) := by decide +kernel
theorem dL_bakerNameByte_8 : decode cL_bakerNameByte 8 = .ok (.i2l, 1) := by decide +kernel
theorem dL_bakerNameByte_9 : decode cL_bakerNameByte 9 = .ok (.lastore, 1) := by decide +kernel
theorem dL_bakerNameByte_10 : decode cL_bakerNameByte 10 = .ok (.goto 11, 3) := by decide +kernel
theorem dL_bakerNameByte_13 : decode cL_bakerNameByte 13 = .ok (.astore 4, 2) := by decide +kernel
theorem dL_bakerNameByte_15 : decode cL_bakerNameByte 15 = .ok (.iconst 1, 1) := by decide +kernel
theorem dL_bakerNameByte_16 : decode cL_bakerNameByte 16 = .ok (.ireturn, 1) := by decide +kernel
theorem dL_bakerNameByte_17 : decode cL_bakerNameByte 17 = .ok (.astore 4, 2) := by decide +kernel
theorem dL_bakerNameByte_19 : decode cL_bakerNameByte 19 = .ok (.iconst 2, 1) := by decide +kernel
theorem dL_bakerNameByte_20 : decode cL_bakerNameByte 20 = .ok (.ireturn, 1) := by decide +kernel
theorem dL_bakerNameByte_21 : decode cL_bakerNameByte 21 = .ok (.iconst 0, 1) := by decide +kernel
theorem dL_bakerNameByte_22 : decode cL_bakerNameByte 22 = .ok (.ireturn, 1) := by decide +kernel
theorem dL_ovenSize_0 : decode cL_ovenSize 0 = .ok (.aload_n 2, 1) := by decide +kernel
theorem dL_ovenSize_1 : decode cL_ovenSize 1 = .ok (.iconst 0, 1) := by decide +kernel
theorem dL_ovenSize_2 : decode cL_ovenSize 2 = .ok (.aload_n 0, 1) := by decide +kernel
theorem dL_ovenSize_3 : decode cL_ovenSize 3 = .ok (.iload_n 1, 1) := by decide +kernel
theorem dL_ovenSize_4 : decode cL_ovenSize 4 = .ok (.invokevirtual 33, 3) := by decide +kernel
theorem dL_ovenSize_7 : decode cL_ovenSize 7 = .ok (.i2l, 1) := by decide +kernel
theorem dL_ovenSize_8 : decode cL_ovenSize 8 = .ok (.lastore, 1) := by decide +kernel
theorem dL_ovenSize_9 : decode cL_ovenSize 9 = .ok (.goto 6, 3) := by decide +kernel
theorem dL_ovenSize_12 : decode cL_ovenSize 12 = .ok (.astore_n 3, 1) := by decide +kernel
theorem dL_ovenSize_13 : decode cL_ovenSize 13 = .ok (.iconst 1, 1) := by decide +kernel
theorem dL_ovenSize_14 : decode cL_ovenSize 14 = .ok (.ireturn, 1) := by decide +kernel
theorem dL_ovenSize_15 : decode cL_ovenSize 15 = .ok (.iconst 0, 1) := by decide +kernel
theorem dL_ovenSize_16 : decode cL_ovenSize 16 = .ok (.ireturn, 1) := by decide +kernel
theorem dL_bakingKind_0 : decode cL_bakingKind 0 = .ok (.aload_n 2, 1) := by decide +kernel
theorem dL_bakingKind_1 : decode cL_bakingKind 1 = .ok (.iconst 0, 1) := by decide +kernel
theorem dL_bakingKind_2 : decode cL_bakingKind 2 = .ok (.aload_n 0, 1) := by decide +kernel
theorem dL_bakingKind_3 : decode cL_bakingKind 3 = .ok (.iload_n 1, 1) := by decide +kernel
theorem dL_bakingKind_4 : decode cL_bakingKind 4 = .ok (.invokevirtual 36, 3) := by decide +kernel
theorem dL_bakingKind_7 : decode cL_bakingKind 7 = .ok (.i2l, 1) := by decide +kernel
theorem dL_bakingKind_8 : decode cL_bakingKind 8 = .ok (.lastore, 1) := by decide +kernel
theorem dL_bakingKind_9 : decode cL_bakingKind 9 = .ok (.goto 6, 3) := by decide +kernel
theorem dL_bakingKind_12 : decode cL_bakingKind 12 = .ok (.astore_n 3, 1) := by decide +kernel
theorem dL_bakingKind_13 : decode cL_bakingKind 13 = .ok (.iconst 1, 1) := by decide +kernel
theorem dL_bakingKind_14 : decode cL_bakingKind 14 = .ok (.ireturn, 1) := by decide +kernel
theorem dL_bakingKind_15 : decode cL_bakingKind 15 = .ok (.iconst 0, 1) := by decide +kernel
theorem dL_bakingKind_16 : decode cL_bakingKind 16 = .ok (.ireturn, 1) := by decide +kernel
theorem dL_hoursLeft_0 : decode cL_hoursLeft 0 = .ok (.aload_n 2, 1) := by decide +kernel
theorem dL_hoursLeft_1 : decode cL_hoursLeft 1 = .ok (.iconst 0, 1) := by decide +kernel
theorem dL_hoursLeft_2 : decode cL_hoursLeft 2 = .ok (.aload_n 0, 1) := by decide +kernel
theorem dL_hoursLeft_3 : decode cL_hoursLeft 3 = .ok (.iload_n 1, 1) := by decide +kernel
theorem dL_hoursLeft_4 : decode cL_hoursLeft 4 = .ok (.invokevirtual 39, 3) := by decide +kernel
theorem dL_hoursLeft_7 : decode cL_hoursLeft 7 = .ok (.i2l, 1) := by decide +kernel
theorem dL_hoursLeft_8 : decode cL_hoursLeft 8 = .ok (.lastore, 1) := by decide +kernel
theorem dL_hoursLeft_9 : decode cL_hoursLeft 9 = .ok (.goto 6, 3) := by decide +kernel
theorem dL_hoursLeft_12 : decode cL_hoursLeft 12 = .ok (.astore_n 3, 1) := by decide +kernel
theorem dL_hoursLeft_13 : decode cL_hoursLeft 13 = .ok (.iconst 1, 1) := by decide +kernel
theorem dL_hoursLeft_14 : decode cL_hoursLeft 14 = .ok (.ireturn, 1) := by decide +kernel
theorem dL_hoursLeft_15 : decode cL_hoursLeft 15 = .ok (.iconst 0, 1) := by decide +kernel
theorem dL_hoursLeft_16 : decode cL_hoursLeft 16 = .ok (.ireturn, 1) := by decide +kernel
theorem dL_income_0 : decode cL_income 0 = .ok (.aload_n 2, 1) := by decide +kernel
theorem dL_income_1 : decode cL_income 1 = .ok (.iconst 0, 1) := by decide +kernel
theorem dL_income_2 : decode cL_income 2 = .ok (.aload_n 0, 1) := by decide +kernel
theorem dL_income_3 : decode cL_income 3 = .ok (.iload_n 1, 1) := by decide +kernel
theorem dL_income_4 : decode cL_income 4 = .ok (.invokevirtual 42, 3) := by decide +kernel
theorem dL_income_7 : decode cL_income 7 = .ok (.i2l, 1) := by decide +kernel
theorem dL_income_8 : decode cL_income 8 = .ok (.lastore, 1) := by decide +kernel
theorem dL_income_9 : decode cL_income 9 = .ok (.goto 6, 3) := by decide +kernel
theorem dL_income_12 : decode cL_income 12 = .ok (.astore_n 3, 1) := by decide +kernel
theorem dL_income_13 : decode cL_income 13 = .ok (.iconst 1, 1) := by decide +kernel
theorem dL_income_14 : decode cL_income 14 = .ok (.ireturn, 1) := by decide +kernel
theorem dL_income_15 : decode cL_income 15 = .ok (.iconst 0, 1) := by decide +kernel
theorem dL_income_16 : decode cL_income 16 = .ok (.ireturn, 1) := by decide +kernel
theorem dL_bakeRefusal_0 : decode cL_bakeRefusal 0 = .ok (.aload_n 3, 1) := by decide +kernel
theorem dL_bakeRefusal_1 : decode cL_bakeRefusal 1 = .ok (.iconst 0, 1) := by decide +kernel
theorem dL_bakeRefusal_2 : decode cL_bakeRefusal 2 = .ok (.aload_n 0, 1) := by decide +kernel
theorem dL_bakeRefusal_3 : decode cL_bakeRefusal 3 = .ok (.iload_n 1, 1) := by decide +kernel
theorem dL_bakeRefusal_4 : decode cL_bakeRefusal 4 = .ok (.iload_n 2, 1) := by decide +kernel
theorem dL_bakeRefusal_5 : decode cL_bakeRefusal 5 = .ok (.invokevirtual 45, 3) := by decide +kernel
theorem dL_bakeRefusal_8 : decode cL_bakeRefusal 8 = .ok (.i2l, 1) := by decide +kernel
theorem dL_bakeRefusal_9 : decode cL_bakeRefusal 9 = .ok (.lastore, 1) := by decide +kernel
theorem dL_bakeRefusal_10 : decode cL_bakeRefusal 10 = .ok (.goto 7, 3) := by decide +kernel
theorem dL_bakeRefusal_13 : decode cL_bakeRefusal 13 = .ok (.astore 4, 2) := by decide +kernel
theorem dL_bakeRefusal_15 : decode cL_bakeRefusal 15 = .ok (.iconst 1, 1) := by decide +kernel
theorem dL_bakeRefusal_16 : decode cL_bakeRefusal 16 = .ok (.ireturn, 1) := by decide +kernel
theorem dL_bakeRefusal_17 : decode cL_bakeRefusal 17 = .ok (.iconst 0, 1) := by decide +kernel
theorem dL_bakeRefusal_18 : decode cL_bakeRefusal 18 = .ok (.ireturn, 1) := by decide +kernel
theorem dL_customerNameByte_0 : decode cL_customerNameByte 0 = .ok (.aload_n 3, 1) := by decide +kernel
theorem dL_customerNameByte_1 : decode cL_customerNameByte 1 = .ok (.iconst 0, 1) := by decide +kernel
theorem dL_customerNameByte_2 : decode cL_customerNameByte 2 = .ok (.aload_n 0, 1) := by decide +kernel
theorem dL_customerNameByte_3 : decode cL_customerNameByte 3 = .ok (.iload_n 1, 1) := by decide +kernel
theorem dL_customerNameByte_4 : decode cL_customerNameByte 4 = .ok (.iload_n 2, 1) := by decide +kernel
theorem dL_customerNameByte_5 : decode cL_customerNameByte 5 = .ok (.invokevirtual 48, 3) := by decide +kernel
theorem dL_customerNameByte_8 : decode cL_customerNameByte 8 = .ok (.i2l, 1) := by decide +kernel
theorem dL_customerNameByte_9 : decode cL_customerNameByte 9 = .ok (.lastore, 1) := by decide +kernel
theorem dL_customerNameByte_10 : decode cL_customerNameByte 10 = .ok (.goto 11, 3) := by decide +kernel
theorem dL_customerNameByte_13 : decode cL_customerNameByte 13 = .ok (.astore 4, 2) := by decide +kernel
theorem dL_customerNameByte_15 : decode cL_customerNameByte 15 = .ok (.iconst 1, 1) := by decide +kernel
theorem dL_customerNameByte_16 : decode cL_customerNameByte 16 = .ok (.ireturn, 1) := by decide +kernel
theorem dL_customerNameByte_17 : decode cL_customerNameByte 17 = .ok (.astore 4, 2) := by decide +kernel
theorem dL_customerNameByte_19 : decode cL_customerNameByte 19 = .ok (.iconst 2, 1) := by decide +kernel
theorem dL_customerNameByte_20 : decode cL_customerNameByte 20 = .ok (.ireturn, 1) := by decide +kernel
theorem dL_customerNameByte_21 : decode cL_customerNameByte 21 = .ok (.iconst 0, 1) := by decide +kernel
theorem dL_customerNameByte_22 : decode cL_customerNameByte 22 = .ok (.ireturn, 1) := by decide +kernel
theorem dL_ticketOf_0 : decode cL_ticketOf 0 = .ok (.aload_n 2, 1) := by decide +kernel
theorem dL_ticketOf_1 : decode cL_ticketOf 1 = .ok (.iconst 0, 1) := by decide +kernel
theorem dL_ticketOf_2 : decode cL_ticketOf 2 = .ok (.aload_n 0, 1) := by decide +kernel
theorem dL_ticketOf_3 : decode cL_ticketOf 3 = .ok (.iload_n 1, 1) := by decide +kernel
theorem dL_ticketOf_4 : decode cL_ticketOf 4 = .ok (.invokevirtual 51, 3) := by decide +kernel
theorem dL_ticketOf_7 : decode cL_ticketOf 7 = .ok (.i2l, 1) := by decide +kernel
theorem dL_ticketOf_8 : decode cL_ticketOf 8 = .ok (.lastore, 1) := by decide +kernel
theorem dL_ticketOf_9 : decode cL_ticketOf 9 = .ok (.goto 6, 3) := by decide +kernel
theorem dL_ticketOf_12 : decode cL_ticketOf 12 = .ok (.astore_n 3, 1) := by decide +kernel
theorem dL_ticketOf_13 : decode cL_ticketOf 13 = .ok (.iconst 1, 1) := by decide +kernel
theorem dL_ticketOf_14 : decode cL_ticketOf 14 = .ok (.ireturn, 1) := by decide +kernel
theorem dL_ticketOf_15 : decode cL_ticketOf 15 = .ok (.iconst 0, 1) := by decide +kernel
theorem dL_ticketOf_16 : decode cL_ticketOf 16 = .ok (.ireturn, 1) := by decide +kernel
theorem dL_kindWanted_0 : decode cL_kindWanted 0 = .ok (.aload_n 2, 1) := by decide +kernel
theorem dL_kindWanted_1 : decode cL_kindWanted 1 = .ok (.iconst 0, 1) := by decide +kernel
theorem dL_kindWanted_2 : decode cL_kindWanted 2 = .ok (.aload_n 0, 1) := by decide +kernel
theorem dL_kindWanted_3 : decode cL_kindWanted 3 = .ok (.iload_n 1, 1) := by decide +kernel
theorem dL_kindWanted_4 : decode cL_kindWanted 4 = .ok (.invokevirtual 54, 3) := by decide +kernel
theorem dL_kindWanted_7 : decode cL_kindWanted 7 = .ok (.i2l, 1) := by decide +kernel
theorem dL_kindWanted_8 : decode cL_kindWanted 8 = .ok (.lastore, 1) := by decide +kernel
theorem dL_kindWanted_9 : decode cL_kindWanted 9 = .ok (.goto 6, 3) := by decide +kernel
theorem dL_kindWanted_12 : decode cL_kindWanted 12 = .ok (.astore_n 3, 1) := by decide +kernel
theorem dL_kindWanted_13 : decode cL_kindWanted 13 = .ok (.iconst 1, 1) := by decide +kernel
theorem dL_kindWanted_14 : decode cL_kindWanted 14 = .ok (.ireturn, 1) := by decide +kernel
theorem dL_kindWanted_15 : decode cL_kindWanted 15 = .ok (.iconst 0, 1) := by decide +kernel
theorem dL_kindWanted_16 : decode cL_kindWanted 16 = .ok (.ireturn, 1) := by decide +kernel
theorem dL_wanted_0 : decode cL_wanted 0 = .ok (.aload_n 2, 1) := by decide +kernel
theorem dL_wanted_1 : decode cL_wanted 1 = .ok (.iconst 0, 1) := by decide +kernel
theorem dL_wanted_2 : decode cL_wanted 2 = .ok (.aload_n 0, 1) := by decide +kernel
theorem dL_wanted_3 : decode cL_wanted 3 = .ok (.iload_n 1, 1) := by decide +kernel
theorem dL_wanted_4 : decode cL_wanted 4 = .ok (.invokevirtual 57, 3) := by decide +kernel
theorem dL_wanted_7 : decode cL_wanted 7 = .ok (.i2l, 1) := by decide +kernel
theorem dL_wanted_8 : decode cL_wanted 8 = .ok (.lastore, 1) := by decide +kernel
theorem dL_wanted_9 : decode cL_wanted 9 = .ok (.goto 6, 3) := by decide +kernel
theorem dL_wanted_12 : decode cL_wanted 12 = .ok (.astore_n 3, 1) := by decide +kernel
theorem dL_wanted_13 : decode cL_wanted 13 = .ok (.iconst 1, 1) := by decide +kernel
theorem dL_wanted_14 : decode cL_wanted 14 = .ok (.ireturn, 1) := by decide +kernel
theorem dL_wanted_15 : decode cL_wanted 15 = .ok (.iconst 0, 1) := by decide +kernel
theorem dL_wanted_16 : decode cL_wanted 16 = .ok (.ireturn, 1) := by decide +kernel
theorem dL_limitPrice_0 : decode cL_limitPrice 0 = .ok (.aload_n 2, 1) := by decide +kernel
theorem dL_limitPrice_1 : decode cL_limitPrice 1 = .ok (.iconst 0, 1) := by decide +kernel
theorem dL_limitPrice_2 : decode cL_limitPrice 2 = .ok (.aload_n 0, 1) := by decide +kernel
theorem dL_limitPrice_3 : decode cL_limitPrice 3 = .ok (.iload_n 1, 1) := by decide +kernel
theorem dL_limitPrice_4 : decode cL_limitPrice 4 = .ok (.invokevirtual 60, 3) := by decide +kernel
theorem dL_limitPrice_7 : decode cL_limitPrice 7 = .ok (.i2l, 1) := by decide +kernel
theorem dL_limitPrice_8 : decode cL_limitPrice 8 = .ok (.lastore, 1) := by decide +kernel
theorem dL_limitPrice_9 : decode cL_limitPrice 9 = .ok (.goto 6, 3) := by decide +kernel
theorem dL_limitPrice_12 : decode cL_limitPrice 12 = .ok (.astore_n 3, 1) := by decide +kernel
theorem dL_limitPrice_13 : decode cL_limitPrice 13 = .ok (.iconst 1, 1) := by decide +kernel
theorem dL_limitPrice_14 : decode cL_limitPrice 14 = .ok (.ireturn, 1) := by decide +kernel
theorem dL_limitPrice_15 : decode cL_limitPrice 15 = .ok (.iconst 0, 1) := by decide +kernel
theorem dL_limitPrice_16 : decode cL_limitPrice 16 = .ok (.ireturn, 1) := by decide +kernel
theorem dL_purse_0 : decode cL_purse 0 = .ok (.aload_n 2, 1) := by decide +kernel
theorem dL_purse_1 : decode cL_purse 1 = .ok (.iconst 0, 1) := by decide +kernel
theorem dL_purse_2 : decode cL_purse 2 = .ok (.aload_n 0, 1) := by decide +kernel
theorem dL_purse_3 : decode cL_purse 3 = .ok (.iload_n 1, 1) := by decide +kernel
theorem dL_purse_4 : decode cL_purse 4 = .ok (.invokevirtual 63, 3) := by decide +kernel
theorem dL_purse_7 : decode cL_purse 7 = .ok (.i2l, 1) := by decide +kernel
theorem dL_purse_8 : decode cL_purse 8 = .ok (.lastore, 1) := by decide +kernel
theorem dL_purse_9 : decode cL_purse 9 = .ok (.goto 6, 3) := by decide +kernel
theorem dL_purse_12 : decode cL_purse 12 = .ok (.astore_n 3, 1) := by decide +kernel
theorem dL_purse_13 : decode cL_purse 13 = .ok (.iconst 1, 1) := by decide +kernel
theorem dL_purse_14 : decode cL_purse 14 = .ok (.ireturn, 1) := by decide +kernel
theorem dL_purse_15 : decode cL_purse 15 = .ok (.iconst 0, 1) := by decide +kernel
theorem dL_purse_16 : decode cL_purse 16 = .ok (.ireturn, 1) := by decide +kernel
theorem dL_patience_0 : decode cL_patience 0 = .ok (.aload_n 2, 1) := by decide +kernel
theorem dL_patience_1 : decode cL_patience 1 = .ok (.iconst 0, 1) := by decide +kernel
theorem dL_patience_2 : decode cL_patience 2 = .ok (.aload_n 0, 1) := by decide +kernel
theorem dL_patience_3 : decode cL_patience 3 = .ok (.iload_n 1, 1) := by decide +kernel
theorem dL_patience_4 : decode cL_patience 4 = .ok (.invokevirtual 66, 3) := by decide +kernel
theorem dL_patience_7 : decode cL_patience 7 = .ok (.i2l, 1) := by decide +kernel
theorem dL_patience_8 : decode cL_patience 8 = .ok (.lastore, 1) := by decide +kernel
theorem dL_patience_9 : decode cL_patience 9 = .ok (.goto 6, 3) := by decide +kernel
theorem dL_patience_12 : decode cL_patience 12 = .ok (.astore_n 3, 1) := by decide +kernel
theorem dL_patience_13 : decode cL_patience 13 = .ok (.iconst 1, 1) := by decide +kernel
theorem dL_patience_14 : decode cL_patience 14 = .ok (.ireturn, 1) := by decide +kernel
theorem dL_patience_15 : decode cL_patience 15 = .ok (.iconst 0, 1) := by decide +kernel
theorem dL_patience_16 : decode cL_patience 16 = .ok (.ireturn, 1) := by decide +kernel
theorem dL_loafKind_0 : decode cL_loafKind 0 = .ok (.aload_n 2, 1) := by decide +kernel
theorem dL_loafKind_1 : decode cL_loafKind 1 = .ok (.iconst 0, 1) := by decide +kernel
theorem dL_loafKind_2 : decode cL_loafKind 2 = .ok (.aload_n 0, 1) := by decide +kernel
theorem dL_loafKind_3 : decode cL_loafKind 3 = .ok (.iload_n 1, 1) := by decide +kernel
theorem dL_loafKind_4 : decode cL_loafKind 4 = .ok (.invokevirtual 69, 3) := by decide +kernel
theorem dL_loafKind_7 : decode cL_loafKind 7 = .ok (.i2l, 1) := by decide +kernel
theorem dL_loafKind_8 : decode cL_loafKind 8 = .ok (.lastore, 1) := by decide +kernel
theorem dL_loafKind_9 : decode cL_loafKind 9 = .ok (.goto 6, 3) := by decide +kernel
theorem dL_loafKind_12 : decode cL_loafKind 12 = .ok (.astore_n 3, 1) := by decide +kernel
theorem dL_loafKind_13 : decode cL_loafKind 13 = .ok (.iconst 1, 1) := by decide +kernel
theorem dL_loafKind_14 : decode cL_loafKind 14 = .ok (.ireturn, 1) := by decide +kernel
theorem dL_loafKind_15 : decode cL_loafKind 15 = .ok (.iconst 0, 1) := by decide +kernel
theorem dL_loafKind_16 : decode cL_loafKind 16 = .ok (.ireturn, 1) := by decide +kernel
theorem dL_loafBaker_0 : decode cL_loafBaker 0 = .ok (.aload_n 2, 1) := by decide +kernel
theorem dL_loafBaker_1 : decode cL_loafBaker 1 = .ok (.iconst 0, 1) := by decide +kernel
theorem dL_loafBaker_2 : decode cL_loafBaker 2 = .ok (.aload_n 0, 1) := by decide +kernel
theorem dL_loafBaker_3 : decode cL_loafBaker 3 = .ok (.iload_n 1, 1) := by decide +kernel
theorem dL_loafBaker_4 : decode cL_loafBaker 4 = .ok (.invokevirtual 72, 3) := by decide +kernel
theorem dL_loafBaker_7 : decode cL_loafBaker 7 = .ok (.i2l, 1) := by decide +kernel
theorem dL_loafBaker_8 : decode cL_loafBaker 8 = .ok (.lastore, 1) := by decide +kernel
theorem dL_loafBaker_9 : decode cL_loafBaker 9 = .ok (.goto 6, 3) := by decide +kernel
theorem dL_loafBaker_12 : decode cL_loafBaker 12 = .ok (.astore_n 3, 1) := by decide +kernel
theorem dL_loafBaker_13 : decode cL_loafBaker 13 = .ok (.iconst 1, 1) := by decide +kernel
theorem dL_loafBaker_14 : decode cL_loafBaker 14 = .ok (.ireturn, 1) := by decide +kernel
theorem dL_loafBaker_15 : decode cL_loafBaker 15 = .ok (.iconst 0, 1) := by decide +kernel
theorem dL_loafBaker_16 : decode cL_loafBaker 16 = .ok (.ireturn, 1) := by decide +kernel
theorem dL_loafAge_0 : decode cL_loafAge 0 = .ok (.aload_n 2, 1) := by decide +kernel
theorem dL_loafAge_1 : decode cL_loafAge 1 = .ok (.iconst 0, 1) := by decide +kernel
theorem dL_loafAge_2 : decode cL_loafAge 2 = .ok (.aload_n 0, 1) := by decide +kernel
theorem dL_loafAge_3 : decode cL_loafAge 3 = .ok (.iload_n 1, 1) := by decide +kernel
theorem dL_loafAge_4 : decode cL_loafAge 4 = .ok (.invokevirtual 75, 3) := by decide +kernel
theorem dL_loafAge_7 : decode cL_loafAge 7 = .ok (.i2l, 1) := by decide +kernel
theorem dL_loafAge_8 : decode cL_loafAge 8 = .ok (.lastore, 1) := by decide +kernel
theorem dL_loafAge_9 : decode cL_loafAge 9 = .ok (.goto 6, 3) := by decide +kernel
theorem dL_loafAge_12 : decode cL_loafAge 12 = .ok (.astore_n 3, 1) := by decide +kernel
theorem dL_loafAge_13 : decode cL_loafAge 13 = .ok (.iconst 1, 1) := by decide +kernel
theorem dL_loafAge_14 : decode cL_loafAge 14 = .ok (.ireturn, 1) := by decide +kernel
theorem dL_loafAge_15 : decode cL_loafAge 15 = .ok (.iconst 0, 1) := by decide +kernel
theorem dL_loafAge_16 : decode cL_loafAge 16 = .ok (.ireturn, 1) := by decide +kernel
theorem dL_reservePrice_0 : decode cL_reservePrice 0 = .ok (.aload_n 2, 1) := by decide +kernel
theorem dL_reservePrice_1 : decode cL_reservePrice 1 = .ok (.iconst 0, 1) := by decide +kernel
theorem dL_reservePrice_2 : decode cL_reservePrice 2 = .ok (.aload_n 0, 1) := by decide +kernel
theorem dL_reservePrice_3 : decode cL_reservePrice 3 = .ok (.iload_n 1, 1) := by decide +kernel
theorem dL_reservePrice_4 : decode cL_reservePrice 4 = .ok (.invokevirtual 78, 3) := by decide +kernel
theorem dL_reservePrice_7 : decode cL_reservePrice 7 = .ok (.i2l, 1) := by decide +kernel
theorem dL_reservePrice_8 : decode cL_reservePrice 8 = .ok (.lastore, 1) := by decide +kernel
theorem dL_reservePrice_9 : decode cL_reservePrice 9 = .ok (.goto 6, 3) := by decide +kernel
theorem dL_reservePrice_12 : decode cL_reservePrice 12 = .ok (.astore_n 3, 1) := by decide +kernel
theorem dL_reservePrice_13 : decode cL_reservePrice 13 = .ok (.iconst 1, 1) := by decide +kernel
theorem dL_reservePrice_14 : decode cL_reservePrice 14 = .ok (.ireturn, 1) := by decide +kernel
theorem dL_reservePrice_15 : decode cL_reservePrice 15 = .ok (.iconst 0, 1) := by decide +kernel
theorem dL_reservePrice_16 : decode cL_reservePrice 16 = .ok (.ireturn, 1) := by decide +kernel
theorem dL_hoursUntilStale_0 : decode cL_hoursUntilStale 0 = .ok (.aload_n 2, 1) := by decide +kernel
theorem dL_hoursUntilStale_1 : decode cL_hoursUntilStale 1 = .ok (.iconst 0, 1) := by decide +kernel
theorem dL_hoursUntilStale_2 : decode cL_hoursUntilStale 2 = .ok (.aload_n 0, 1) := by decide +kernel
theorem dL_hoursUntilStale_3 : decode cL_hoursUntilStale 3 = .ok (.iload_n 1, 1) := by decide +kernel
theorem dL_hoursUntilStale_4 : decode cL_hoursUntilStale 4 = .ok (.invokevirtual 81, 3) := by decide +kernel
theorem dL_hoursUntilStale_7 : decode cL_hoursUntilStale 7 = .ok (.i2l, 1) := by decide +kernel
theorem dL_hoursUntilStale_8 : decode cL_hoursUntilStale 8 = .ok (.lastore, 1) := by decide +kernel
theorem dL_hoursUntilStale_9 : decode cL_hoursUntilStale 9 = .ok (.goto 6, 3) := by decide +kernel
theorem dL_hoursUntilStale_12 : decode cL_hoursUntilStale 12 = .ok (.astore_n 3, 1) := by decide +kernel
theorem dL_hoursUntilStale_13 : decode cL_hoursUntilStale 13 = .ok (.iconst 1, 1) := by decide +kernel
theorem dL_hoursUntilStale_14 : decode cL_hoursUntilStale 14 = .ok (.ireturn, 1) := by decide +kernel
theorem dL_hoursUntilStale_15 : decode cL_hoursUntilStale 15 = .ok (.iconst 0, 1) := by decide +kernel
theorem dL_hoursUntilStale_16 : decode cL_hoursUntilStale 16 = .ok (.ireturn, 1) := by decide +kernel
theorem dL_basePrice_0 : decode cL_basePrice 0 = .ok (.aload_n 2, 1) := by decide +kernel
theorem dL_basePrice_1 : decode cL_basePrice 1 = .ok (.iconst 0, 1) := by decide +kernel
theorem dL_basePrice_2 : decode cL_basePrice 2 = .ok (.aload_n 0, 1) := by decide +kernel
theorem dL_basePrice_3 : decode cL_basePrice 3 = .ok (.iload_n 1, 1) := by decide +kernel
theorem dL_basePrice_4 : decode cL_basePrice 4 = .ok (.invokevirtual 84, 3) := by decide +kernel
theorem dL_basePrice_7 : decode cL_basePrice 7 = .ok (.i2l, 1) := by decide +kernel
theorem dL_basePrice_8 : decode cL_basePrice 8 = .ok (.lastore, 1) := by decide +kernel
theorem dL_basePrice_9 : decode cL_basePrice 9 = .ok (.goto 6, 3) := by decide +kernel
theorem dL_basePrice_12 : decode cL_basePrice 12 = .ok (.astore_n 3, 1) := by decide +kernel
theorem dL_basePrice_13 : decode cL_basePrice 13 = .ok (.iconst 1, 1) := by decide +kernel
theorem dL_basePrice_14 : decode cL_basePrice 14 = .ok (.ireturn, 1) := by decide +kernel
theorem dL_basePrice_15 : decode cL_basePrice 15 = .ok (.iconst 0, 1) := by decide +kernel
theorem dL_basePrice_16 : decode cL_basePrice 16 = .ok (.ireturn, 1) := by decide +kernel
theorem dL_reserveAt_0 : decode cL_reserveAt 0 = .ok (.aload_n 3, 1) := by decide +kernel
theorem dL_reserveAt_1 : decode cL_reserveAt 1 = .ok (.iconst 0, 1) := by decide +kernel
theorem dL_reserveAt_2 : decode cL_reserveAt 2 = .ok (.aload_n 0, 1) := by decide +kernel
theorem dL_reserveAt_3 : decode cL_reserveAt 3 = .ok (.iload_n 1, 1) := by decide +kernel
theorem dL_reserveAt_4 : decode cL_reserveAt 4 = .ok (.iload_n 2, 1) := by decide +kernel
theorem dL_reserveAt_5 : decode cL_reserveAt 5 = .ok (.invokevirtual 87, 3) := by decide +kernel
theorem dL_reserveAt_8 : decode cL_reserveAt 8 = .ok (.i2l, 1) := by decide +kernel
theorem dL_reserveAt_9 : decode cL_reserveAt 9 = .ok (.lastore, 1) := by decide +kernel
theorem dL_reserveAt_10 : decode cL_reserveAt 10 = .ok (.goto 11, 3) := by decide +kernel
theorem dL_reserveAt_13 : decode cL_reserveAt 13 = .ok (.astore 4, 2) := by decide +kernel
theorem dL_reserveAt_15 : decode cL_reserveAt 15 = .ok (.iconst 1, 1) := by decide +kernel
theorem dL_reserveAt_16 : decode cL_reserveAt 16 = .ok (.ireturn, 1) := by decide +kernel
theorem dL_reserveAt_17 : decode cL_reserveAt 17 = .ok (.astore 4, 2) := by decide +kernel
theorem dL_reserveAt_19 : decode cL_reserveAt 19 = .ok (.iconst 2, 1) := by decide +kernel
theorem dL_reserveAt_20 : decode cL_reserveAt 20 = .ok (.ireturn, 1) := by decide +kernel
theorem dL_reserveAt_21 : decode cL_reserveAt 21 = .ok (.iconst 0, 1) := by decide +kernel
theorem dL_reserveAt_22 : decode cL_reserveAt 22 = .ok (.ireturn, 1) := by decide +kernel
theorem dL_bidCount_0 : decode cL_bidCount 0 = .ok (.aload_n 2, 1) := by decide +kernel
theorem dL_bidCount_1 : decode cL_bidCount 1 = .ok (.iconst 0, 1) := by decide +kernel
theorem dL_bidCount_2 : decode cL_bidCount 2 = .ok (.aload_n 0, 1) := by decide +kernel
theorem dL_bidCount_3 : decode cL_bidCount 3 = .ok (.iload_n 1, 1) := by decide +kernel
theorem dL_bidCount_4 : decode cL_bidCount 4 = .ok (.invokevirtual 90, 3) := by decide +kernel
theorem dL_bidCount_7 : decode cL_bidCount 7 = .ok (.i2l, 1) := by decide +kernel
theorem dL_bidCount_8 : decode cL_bidCount 8 = .ok (.lastore, 1) := by decide +kernel
theorem dL_bidCount_9 : decode cL_bidCount 9 = .ok (.goto 6, 3) := by decide +kernel
theorem dL_bidCount_12 : decode cL_bidCount 12 = .ok (.astore_n 3, 1) := by decide +kernel
theorem dL_bidCount_13 : decode cL_bidCount 13 = .ok (.iconst 1, 1) := by decide +kernel
theorem dL_bidCount_14 : decode cL_bidCount 14 = .ok (.ireturn, 1) := by decide +kernel
theorem dL_bidCount_15 : decode cL_bidCount 15 = .ok (.iconst 0, 1) := by decide +kernel
theorem dL_bidCount_16 : decode cL_bidCount 16 = .ok (.ireturn, 1) := by decide +kernel
theorem dL_tradeCount_0 : decode cL_tradeCount 0 = .ok (.aload_n 2, 1) := by decide +kernel
theorem dL_tradeCount_1 : decode cL_tradeCount 1 = .ok (.iconst 0, 1) := by decide +kernel
theorem dL_tradeCount_2 : decode cL_tradeCount 2 = .ok (.aload_n 0, 1) := by decide +kernel
theorem dL_tradeCount_3 : decode cL_tradeCount 3 = .ok (.iload_n 1, 1) := by decide +kernel
theorem dL_tradeCount_4 : decode cL_tradeCount 4 = .ok (.invokevirtual 93, 3) := by decide +kernel
theorem dL_tradeCount_7 : decode cL_tradeCount 7 = .ok (.i2l, 1) := by decide +kernel
theorem dL_tradeCount_8 : decode cL_tradeCount 8 = .ok (.lastore, 1) := by decide +kernel
theorem dL_tradeCount_9 : decode cL_tradeCount 9 = .ok (.goto 6, 3) := by decide +kernel
theorem dL_tradeCount_12 : decode cL_tradeCount 12 = .ok (.astore_n 3, 1) := by decide +kernel
theorem dL_tradeCount_13 : decode cL_tradeCount 13 = .ok (.iconst 1, 1) := by decide +kernel
theorem dL_tradeCount_14 : decode cL_tradeCount 14 = .ok (.ireturn, 1) := by decide +kernel
theorem dL_tradeCount_15 : decode cL_tradeCount 15 = .ok (.iconst 0, 1) := by decide +kernel
theorem dL_tradeCount_16 : decode cL_tradeCount 16 = .ok (.ireturn, 1) := by decide +kernel
theorem dL_clearingPrice_0 : decode cL_clearingPrice 0 = .ok (.aload_n 2, 1) := by decide +kernel
theorem dL_clearingPrice_1 : decode cL_clearingPrice 1 = .ok (.iconst 0, 1) := by decide +kernel
theorem dL_clearingPrice_2 : decode cL_clearingPrice 2 = .ok (.aload_n 0, 1) := by decide +kernel
theorem dL_clearingPrice_3 : decode cL_clearingPrice 3 = .ok (.iload_n 1, 1) := by decide +kernel
theorem dL_clearingPrice_4 : decode cL_clearingPrice 4 = .ok (.invokevirtual 96, 3) := by decide +kernel
theorem dL_clearingPrice_7 : decode cL_clearingPrice 7 = .ok (.i2l, 1) := by decide +kernel
theorem dL_clearingPrice_8 : decode cL_clearingPrice 8 = .ok (.lastore, 1) := by decide +kernel
theorem dL_clearingPrice_9 : decode cL_clearingPrice 9 = .ok (.goto 6, 3) := by decide +kernel
theorem dL_clearingPrice_12 : decode cL_clearingPrice 12 = .ok (.astore_n 3, 1) := by decide +kernel
theorem dL_clearingPrice_13 : decode cL_clearingPrice 13 = .ok (.iconst 1, 1) := by decide +kernel
theorem dL_clearingPrice_14 : decode cL_clearingPrice 14 = .ok (.ireturn, 1) := by decide +kernel
theorem dL_clearingPrice_15 : decode cL_clearingPrice 15 = .ok (.iconst 0, 1) := by decide +kernel
theorem dL_clearingPrice_16 : decode cL_clearingPrice 16 = .ok (.ireturn, 1) := by decide +kernel
theorem dL_reasonNoTrades_0 : decode cL_reasonNoTrades 0 = .ok (.aload_n 2, 1) := by decide +kernel
theorem dL_reasonNoTrades_1 : decode cL_reasonNoTrades 1 = .ok (.iconst 0, 1) := by decide +kernel
theorem dL_reasonNoTrades_2 : decode cL_reasonNoTrades 2 = .ok (.aload_n 0, 1) := by decide +kernel
theorem dL_reasonNoTrades_3 : decode cL_reasonNoTrades 3 = .ok (.iload_n 1, 1) := by decide +kernel
theorem dL_reasonNoTrades_4 : decode cL_reasonNoTrades 4 = .ok (.invokevirtual 99, 3) := by decide +kernel
theorem dL_reasonNoTrades_7 : decode cL_reasonNoTrades 7 = .ok (.i2l, 1) := by decide +kernel
theorem dL_reasonNoTrades_8 : decode cL_reasonNoTrades 8 = .ok (.lastore, 1) := by decide +kernel
theorem dL_reasonNoTrades_9 : decode cL_reasonNoTrades 9 = .ok (.goto 6, 3) := by decide +kernel
theorem dL_reasonNoTrades_12 : decode cL_reasonNoTrades 12 = .ok (.astore_n 3, 1) := by decide +kernel
theorem dL_reasonNoTrades_13 : decode cL_reasonNoTrades 13 = .ok (.iconst 1, 1) := by decide +kernel
theorem dL_reasonNoTrades_14 : decode cL_reasonNoTrades 14 = .ok (.ireturn, 1) := by decide +kernel
theorem dL_reasonNoTrades_15 : decode cL_reasonNoTrades 15 = .ok (.iconst 0, 1) := by decide +kernel
theorem dL_reasonNoTrades_16 : decode cL_reasonNoTrades 16 = .ok (.ireturn, 1) := by decide +kernel
theorem dL_buyerOf_0 : decode cL_buyerOf 0 = .ok (.aload_n 3, 1) := by decide +kernel
theorem dL_buyerOf_1 : decode cL_buyerOf 1 = .ok (.iconst 0, 1) := by decide +kernel
theorem dL_buyerOf_2 : decode cL_buyerOf 2 = .ok (.aload_n 0, 1) := by decide +kernel
theorem dL_buyerOf_3 : decode cL_buyerOf 3 = .ok (.iload_n 1, 1) := by decide +kernel
theorem dL_buyerOf_4 : decode cL_buyerOf 4 = .ok (.iload_n 2, 1) := by decide +kernel
theorem dL_buyerOf_5 : decode cL_buyerOf 5 = .ok (.invokevirtual 102, 3) := by decide +kernel
theorem dL_buyerOf_8 : decode cL_buyerOf 8 = .ok (.i2l, 1) := by decide +kernel
theorem dL_buyerOf_9 : decode cL_buyerOf 9 = .ok (.lastore, 1) := by decide +kernel
theorem dL_buyerOf_10 : decode cL_buyerOf 10 = .ok (.goto 11, 3) := by decide +kernel
theorem dL_buyerOf_13 : decode cL_buyerOf 13 = .ok (.astore 4, 2) := by decide +kernel
theorem dL_buyerOf_15 : decode cL_buyerOf 15 = .ok (.iconst 1, 1) := by decide +kernel
theorem dL_buyerOf_16 : decode cL_buyerOf 16 = .ok (.ireturn, 1) := by decide +kernel
theorem dL_buyerOf_17 : decode cL_buyerOf 17 = .ok (.astore 4, 2) := by decide +kernel
theorem dL_buyerOf_19 : decode cL_buyerOf 19 = .ok (.iconst 2, 1) := by decide +kernel
theorem dL_buyerOf_20 : decode cL_buyerOf 20 = .ok (.ireturn, 1) := by decide +kernel
theorem dL_buyerOf_21 : decode cL_buyerOf 21 = .ok (.iconst 0, 1) := by decide +kernel
theorem dL_buyerOf_22 : decode cL_buyerOf 22 = .ok (.ireturn, 1) := by decide +kernel
theorem dL_loafOf_0 : decode cL_loafOf 0 = .ok (.aload_n 3, 1) := by decide +kernel
theorem dL_loafOf_1 : decode cL_loafOf 1 = .ok (.iconst 0, 1) := by decide +kernel
theorem dL_loafOf_2 : decode cL_loafOf 2 = .ok (.aload_n 0, 1) := by decide +kernel
theorem dL_loafOf_3 : decode cL_loafOf 3 = .ok (.iload_n 1, 1) := by decide +kernel
theorem dL_loafOf_4 : decode cL_loafOf 4 = .ok (.iload_n 2, 1) := by decide +kernel
theorem dL_loafOf_5 : decode cL_loafOf 5 = .ok (.invokevirtual 105, 3) := by decide +kernel
theorem dL_loafOf_8 : decode cL_loafOf 8 = .ok (.i2l, 1) := by decide +kernel
theorem dL_loafOf_9 : decode cL_loafOf 9 = .ok (.lastore, 1) := by decide +kernel
theorem dL_loafOf_10 : decode cL_loafOf 10 = .ok (.goto 11, 3) := by decide +kernel
theorem dL_loafOf_13 : decode cL_loafOf 13 = .ok (.astore 4, 2) := by decide +kernel
theorem dL_loafOf_15 : decode cL_loafOf 15 = .ok (.iconst 1, 1) := by decide +kernel
theorem dL_loafOf_16 : decode cL_loafOf 16 = .ok (.ireturn, 1) := by decide +kernel
theorem dL_loafOf_17 : decode cL_loafOf 17 = .ok (.astore 4, 2) := by decide +kernel
theorem dL_loafOf_19 : decode cL_loafOf 19 = .ok (.iconst 2, 1) := by decide +kernel
theorem dL_loafOf_20 : decode cL_loafOf 20 = .ok (.ireturn, 1) := by decide +kernel
theorem dL_loafOf_21 : decode cL_loafOf 21 = .ok (.iconst 0, 1) := by decide +kernel
theorem dL_loafOf_22 : decode cL_loafOf 22 = .ok (.ireturn, 1) := by decide +kernel
theorem dL_gain_0 : decode cL_gain 0 = .ok (.aload_n 2, 1) := by decide +kernel
theorem dL_gain_1 : decode cL_gain 1 = .ok (.iconst 0, 1) := by decide +kernel
theorem dL_gain_2 : decode cL_gain 2 = .ok (.aload_n 0, 1) := by decide +kernel
theorem dL_gain_3 : decode cL_gain 3 = .ok (.iload_n 1, 1) := by decide +kernel
theorem dL_gain_4 : decode cL_gain 4 = .ok (.invokevirtual 108, 3) := by decide +kernel
theorem dL_gain_7 : decode cL_gain 7 = .ok (.i2l, 1) := by decide +kernel
theorem dL_gain_8 : decode cL_gain 8 = .ok (.lastore, 1) := by decide +kernel
theorem dL_gain_9 : decode cL_gain 9 = .ok (.goto 6, 3) := by decide +kernel
theorem dL_gain_12 : decode cL_gain 12 = .ok (.astore_n 3, 1) := by decide +kernel
theorem dL_gain_13 : decode cL_gain 13 = .ok (.iconst 1, 1) := by decide +kernel
theorem dL_gain_14 : decode cL_gain 14 = .ok (.ireturn, 1) := by decide +kernel
theorem dL_gain_15 : decode cL_gain 15 = .ok (.iconst 0, 1) := by decide +kernel
theorem dL_gain_16 : decode cL_gain 16 = .ok (.ireturn, 1) := by decide +kernel
theorem dL_eventType_0 : decode cL_eventType 0 = .ok (.aload_n 2, 1) := by decide +kernel
theorem dL_eventType_1 : decode cL_eventType 1 = .ok (.iconst 0, 1) := by decide +kernel
theorem dL_eventType_2 : decode cL_eventType 2 = .ok (.aload_n 0, 1) := by decide +kernel
theorem dL_eventType_3 : decode cL_eventType 3 = .ok (.iload_n 1, 1) := by decide +kernel
theorem dL_eventType_4 : decode cL_eventType 4 = .ok (.invokevirtual 111, 3) := by decide +kernel
theorem dL_eventType_7 : decode cL_eventType 7 = .ok (.i2l, 1) := by decide +kernel
theorem dL_eventType_8 : decode cL_eventType 8 = .ok (.lastore, 1) := by decide +kernel
theorem dL_eventType_9 : decode cL_eventType 9 = .ok (.goto 6, 3) := by decide +kernel
theorem dL_eventType_12 : decode cL_eventType 12 = .ok (.astore_n 3, 1) := by decide +kernel
theorem dL_eventType_13 : decode cL_eventType 13 = .ok (.iconst 1, 1) := by decide +kernel
theorem dL_eventType_14 : decode cL_eventType 14 = .ok (.ireturn, 1) := by decide +kernel
theorem dL_eventType_15 : decode cL_eventType 15 = .ok (.iconst 0, 1) := by decide +kernel
theorem dL_eventType_16 : decode cL_eventType 16 = .ok (.ireturn, 1) := by decide +kernel
theorem dL_eventFirst_0 : decode cL_eventFirst 0 = .ok (.aload_n 2, 1) := by decide +kernel
theorem dL_eventFirst_1 : decode cL_eventFirst 1 = .ok (.iconst 0, 1) := by decide +kernel
theorem dL_eventFirst_2 : decode cL_eventFirst 2 = .ok (.aload_n 0, 1) := by decide +kernel
theorem dL_eventFirst_3 : decode cL_eventFirst 3 = .ok (.iload_n 1, 1) := by decide +kernel
theorem dL_eventFirst_4 : decode cL_eventFirst 4 = .ok (.invokevirtual 114, 3) := by decide +kernel
theorem dL_eventFirst_7 : decode cL_eventFirst 7 = .ok (.i2l, 1) := by decide +kernel
theorem dL_eventFirst_8 : decode cL_eventFirst 8 = .ok (.lastore, 1) := by decide +kernel
theorem dL_eventFirst_9 : decode cL_eventFirst 9 = .ok (.goto 6, 3) := by decide +kernel
theorem dL_eventFirst_12 : decode cL_eventFirst 12 = .ok (.astore_n 3, 1) := by decide +kernel
theorem dL_eventFirst_13 : decode cL_eventFirst 13 = .ok (.iconst 1, 1) := by decide +kernel
theorem dL_eventFirst_14 : decode cL_eventFirst 14 = .ok (.ireturn, 1) := by decide +kernel
theorem dL_eventFirst_15 : decode cL_eventFirst 15 = .ok (.iconst 0, 1) := by decide +kernel
theorem dL_eventFirst_16 : decode cL_eventFirst 16 = .ok (.ireturn, 1) := by decide +kernel
theorem dL_eventSecond_0 : decode cL_eventSecond 0 = .ok (.aload_n 2, 1) := by decide +kernel
theorem dL_eventSecond_1 : decode cL_eventSecond 1 = .ok (.iconst 0, 1) := by decide +kernel
theorem dL_eventSecond_2 : decode cL_eventSecond 2 = .ok (.aload_n 0, 1) := by decide +kernel
theorem dL_eventSecond_3 : decode cL_eventSecond 3 = .ok (.iload_n 1, 1) := by decide +kernel
theorem dL_eventSecond_4 : decode cL_eventSecond 4 = .ok (.invokevirtual 117, 3) := by decide +kernel
theorem dL_eventSecond_7 : decode cL_eventSecond 7 = .ok (.i2l, 1) := by decide +kernel
theorem dL_eventSecond_8 : decode cL_eventSecond 8 = .ok (.lastore, 1) := by decide +kernel
theorem dL_eventSecond_9 : decode cL_eventSecond 9 = .ok (.goto 6, 3) := by decide +kernel
theorem dL_eventSecond_12 : decode cL_eventSecond 12 = .ok (.astore_n 3, 1) := by decide +kernel
theorem dL_eventSecond_13 : decode cL_eventSecond 13 = .ok (.iconst 1, 1) := by decide +kernel
theorem dL_eventSecond_14 : decode cL_eventSecond 14 = .ok (.ireturn, 1) := by decide +kernel
theorem dL_eventSecond_15 : decode cL_eventSecond 15 = .ok (.iconst 0, 1) := by decide +kernel
theorem dL_eventSecond_16 : decode cL_eventSecond 16 = .ok (.ireturn, 1) := by decide +kernel
theorem dL_sparrowsAfter_0 : decode cL_sparrowsAfter 0 = .ok (.aload_n 2, 1) := by decide +kernel
theorem dL_sparrowsAfter_1 : decode cL_sparrowsAfter 1 = .ok (.iconst 0, 1) := by decide +kernel
theorem dL_sparrowsAfter_2 : decode cL_sparrowsAfter 2 = .ok (.aload_n 0, 1) := by decide +kernel
theorem dL_sparrowsAfter_3 : decode cL_sparrowsAfter 3 = .ok (.iload_n 1, 1) := by decide +kernel
theorem dL_sparrowsAfter_4 : decode cL_sparrowsAfter 4 = .ok (.invokevirtual 120, 3) := by decide +kernel
theorem dL_sparrowsAfter_7 : decode cL_sparrowsAfter 7 = .ok (.i2l, 1) := by decide +kernel
theorem dL_sparrowsAfter_8 : decode cL_sparrowsAfter 8 = .ok (.lastore, 1) := by decide +kernel
theorem dL_sparrowsAfter_9 : decode cL_sparrowsAfter 9 = .ok (.goto 6, 3) := by decide +kernel
theorem dL_sparrowsAfter_12 : decode cL_sparrowsAfter 12 = .ok (.astore_n 3, 1) := by decide +kernel
theorem dL_sparrowsAfter_13 : decode cL_sparrowsAfter 13 = .ok (.iconst 1, 1) := by decide +kernel
theorem dL_sparrowsAfter_14 : decode cL_sparrowsAfter 14 = .ok (.ireturn, 1) := by decide +kernel
theorem dL_sparrowsAfter_15 : decode cL_sparrowsAfter 15 = .ok (.iconst 0, 1) := by decide +kernel
theorem dL_sparrowsAfter_16 : decode cL_sparrowsAfter 16 = .ok (.ireturn, 1) := by decide +kernel
theorem dL_loavesAfter_0 : decode cL_loavesAfter 0 = .ok (.aload_n 2, 1) := by decide +kernel
theorem dL_loavesAfter_1 : decode cL_loavesAfter 1 = .ok (.iconst 0, 1) := by decide +kernel
theorem dL_loavesAfter_2 : decode cL_loavesAfter 2 = .ok (.aload_n 0, 1) := by decide +kernel
theorem dL_loavesAfter_3 : decode cL_loavesAfter 3 = .ok (.iload_n 1, 1) := by decide +kernel
theorem dL_loavesAfter_4 : decode cL_loavesAfter 4 = .ok (.invokevirtual 123, 3) := by decide +kernel
theorem dL_loavesAfter_7 : decode cL_loavesAfter 7 = .ok (.i2l, 1) := by decide +kernel
theorem dL_loavesAfter_8 : decode cL_loavesAfter 8 = .ok (.lastore, 1) := by decide +kernel
theorem dL_loavesAfter_9 : decode cL_loavesAfter 9 = .ok (.goto 6, 3) := by decide +kernel
theorem dL_loavesAfter_12 : decode cL_loavesAfter 12 = .ok (.astore_n 3, 1) := by decide +kernel
theorem dL_loavesAfter_13 : decode cL_loavesAfter 13 = .ok (.iconst 1, 1) := by decide +kernel
theorem dL_loavesAfter_14 : decode cL_loavesAfter 14 = .ok (.ireturn, 1) := by decide +kernel
theorem dL_loavesAfter_15 : decode cL_loavesAfter 15 = .ok (.iconst 0, 1) := by decide +kernel
theorem dL_loavesAfter_16 : decode cL_loavesAfter 16 = .ok (.ireturn, 1) := by decide +kernel
theorem dL_tradesAfter_0 : decode cL_tradesAfter 0 = .ok (.aload_n 3, 1) := by decide +kernel
theorem dL_tradesAfter_1 : decode cL_tradesAfter 1 = .ok (.iconst 0, 1) := by decide +kernel
theorem dL_tradesAfter_2 : decode cL_tradesAfter 2 = .ok (.aload_n 0, 1) := by decide +kernel
theorem dL_tradesAfter_3 : decode cL_tradesAfter 3 = .ok (.iload_n 1, 1) := by decide +kernel
theorem dL_tradesAfter_4 : decode cL_tradesAfter 4 = .ok (.iload_n 2, 1) := by decide +kernel
theorem dL_tradesAfter_5 : decode cL_tradesAfter 5 = .ok (.invokevirtual 126, 3) := by decide +kernel
theorem dL_tradesAfter_8 : decode cL_tradesAfter 8 = .ok (.i2l, 1) := by decide +kernel
theorem dL_tradesAfter_9 : decode cL_tradesAfter 9 = .ok (.lastore, 1) := by decide +kernel
theorem dL_tradesAfter_10 : decode cL_tradesAfter 10 = .ok (.goto 11, 3) := by decide +kernel
theorem dL_tradesAfter_13 : decode cL_tradesAfter 13 = .ok (.astore 4, 2) := by decide +kernel
theorem dL_tradesAfter_15 : decode cL_tradesAfter 15 = .ok (.iconst 1, 1) := by decide +kernel
theorem dL_tradesAfter_16 : decode cL_tradesAfter 16 = .ok (.ireturn, 1) := by decide +kernel
theorem dL_tradesAfter_17 : decode cL_tradesAfter 17 = .ok (.astore 4, 2) := by decide +kernel
theorem dL_tradesAfter_19 : decode cL_tradesAfter 19 = .ok (.iconst 2, 1) := by decide +kernel
theorem dL_tradesAfter_20 : decode cL_tradesAfter 20 = .ok (.ireturn, 1) := by decide +kernel
theorem dL_tradesAfter_21 : decode cL_tradesAfter 21 = .ok (.iconst 0, 1) := by decide +kernel
theorem dL_tradesAfter_22 : decode cL_tradesAfter 22 = .ok (.ireturn, 1) := by decide +kernel
theorem dL_bestHour_0 : decode cL_bestHour 0 = .ok (.aload_n 2, 1) := by decide +kernel
theorem dL_bestHour_1 : decode cL_bestHour 1 = .ok (.iconst 0, 1) := by decide +kernel
theorem dL_bestHour_2 : decode cL_bestHour 2 = .ok (.aload_n 0, 1) := by decide +kernel
theorem dL_bestHour_3 : decode cL_bestHour 3 = .ok (.iload_n 1, 1) := by decide +kernel
theorem dL_bestHour_4 : decode cL_bestHour 4 = .ok (.invokevirtual 129, 3) := by decide +kernel
theorem dL_bestHour_7 : decode cL_bestHour 7 = .ok (.i2l, 1) := by decide +kernel
theorem dL_bestHour_8 : decode cL_bestHour 8 = .ok (.lastore, 1) := by decide +kernel
theorem dL_bestHour_9 : decode cL_bestHour 9 = .ok (.goto 6, 3) := by decide +kernel
theorem dL_bestHour_12 : decode cL_bestHour 12 = .ok (.astore_n 3, 1) := by decide +kernel
theorem dL_bestHour_13 : decode cL_bestHour 13 = .ok (.iconst 1, 1) := by decide +kernel
theorem dL_bestHour_14 : decode cL_bestHour 14 = .ok (.ireturn, 1) := by decide +kernel
theorem dL_bestHour_15 : decode cL_bestHour 15 = .ok (.iconst 0, 1) := by decide +kernel
theorem dL_bestHour_16 : decode cL_bestHour 16 = .ok (.ireturn, 1) := by decide +kernel
theorem dL_bake_0 : decode cL_bake 0 = .ok (.aload_n 3, 1) := by decide +kernel
theorem dL_bake_1 : decode cL_bake 1 = .ok (.iconst 0, 1) := by decide +kernel
theorem dL_bake_2 : decode cL_bake 2 = .ok (.aload_n 0, 1) := by decide +kernel
theorem dL_bake_3 : decode cL_bake 3 = .ok (.iload_n 1, 1) := by decide +kernel
theorem dL_bake_4 : decode cL_bake 4 = .ok (.iload_n 2, 1) := by decide +kernel
theorem dL_bake_5 : decode cL_bake 5 = .ok (.invokevirtual 132, 3) := by decide +kernel
theorem dL_bake_8 : decode cL_bake 8 = .ok (.i2l, 1) := by decide +kernel
theorem dL_bake_9 : decode cL_bake 9 = .ok (.lastore, 1) := by decide +kernel
theorem dL_bake_10 : decode cL_bake 10 = .ok (.goto 11, 3) := by decide +kernel
theorem dL_bake_13 : decode cL_bake 13 = .ok (.astore 4, 2) := by decide +kernel
theorem dL_bake_15 : decode cL_bake 15 = .ok (.iconst 1, 1) := by decide +kernel
theorem dL_bake_16 : decode cL_bake 16 = .ok (.ireturn, 1) := by decide +kernel
theorem dL_bake_17 : decode cL_bake 17 = .ok (.astore 4, 2) := by decide +kernel
theorem dL_bake_19 : decode cL_bake 19 = .ok (.iconst 2, 1) := by decide +kernel
theorem dL_bake_20 : decode cL_bake 20 = .ok (.ireturn, 1) := by decide +kernel
theorem dL_bake_21 : decode cL_bake 21 = .ok (.iconst 0, 1) := by decide +kernel
theorem dL_bake_22 : decode cL_bake 22 = .ok (.ireturn, 1) := by decide +kernel
theorem dL_auction_0 : decode cL_auction 0 = .ok (.aload_n 2, 1) := by decide +kernel
theorem dL_auction_1 : decode cL_auction 1 = .ok (.iconst 0, 1) := by decide +kernel
theorem dL_auction_2 : decode cL_auction 2 = .ok (.aload_n 0, 1) := by decide +kernel
theorem dL_auction_3 : decode cL_auction 3 = .ok (.iload_n 1, 1) := by decide +kernel
theorem dL_auction_4 : decode cL_auction 4 = .ok (.invokevirtual 135, 3) := by decide +kernel
theorem dL_auction_7 : decode cL_auction 7 = .ok (.i2l, 1) := by decide +kernel
theorem dL_auction_8 : decode cL_auction 8 = .ok (.lastore, 1) := by decide +kernel
theorem dL_auction_9 : decode cL_auction 9 = .ok (.goto 6, 3) := by decide +kernel
theorem dL_auction_12 : decode cL_auction 12 = .ok (.astore_n 3, 1) := by decide +kernel
theorem dL_auction_13 : decode cL_auction 13 = .ok (.iconst 1, 1) := by decide +kernel
theorem dL_auction_14 : decode cL_auction 14 = .ok (.ireturn, 1) := by decide +kernel
theorem dL_auction_15 : decode cL_auction 15 = .ok (.iconst 0, 1) := by decide +kernel
theorem dL_auction_16 : decode cL_auction 16 = .ok (.ireturn, 1) := by decide +kernel
theorem dL_joinQueue_0 : decode cL_joinQueue 0 = .ok (.aload 6, 2) := by decide +kernel
theorem dL_joinQueue_2 : decode cL_joinQueue 2 = .ok (.iconst 0, 1) := by decide +kernel
theorem dL_joinQueue_3 : decode cL_joinQueue 3 = .ok (.aload_n 0, 1) := by decide +kernel
theorem dL_joinQueue_4 : decode cL_joinQueue 4 = .ok (.iload_n 1, 1) := by decide +kernel
theorem dL_joinQueue_5 : decode cL_joinQueue 5 = .ok (.iload_n 2, 1) := by decide +kernel
theorem dL_joinQueue_6 : decode cL_joinQueue 6 = .ok (.iload_n 3, 1) := by decide +kernel
theorem dL_joinQueue_7 : decode cL_joinQueue 7 = .ok (.iload 4, 2) := by decide +kernel
theorem dL_joinQueue_9 : decode cL_joinQueue 9 = .ok (.iload 5, 2) := by decide +kernel
theorem dL_joinQueue_11 : decode cL_joinQueue 11 = .ok (.invokevirtual 138, 3) := by decide +kernel
theorem dL_joinQueue_14 : decode cL_joinQueue 14 = .ok (.i2l, 1) := by decide +kernel
theorem dL_joinQueue_15 : decode cL_joinQueue 15 = .ok (.lastore, 1) := by decide +kernel
theorem dL_joinQueue_16 : decode cL_joinQueue 16 = .ok (.goto 15, 3) := by decide +kernel
theorem dL_joinQueue_19 : decode cL_joinQueue 19 = .ok (.astore 7, 2) := by decide +kernel
theorem dL_joinQueue_21 : decode cL_joinQueue 21 = .ok (.iconst 1, 1) := by decide +kernel
theorem dL_joinQueue_22 : decode cL_joinQueue 22 = .ok (.ireturn, 1) := by decide +kernel
theorem dL_joinQueue_23 : decode cL_joinQueue 23 = .ok (.astore 7, 2) := by decide +kernel
theorem dL_joinQueue_25 : decode cL_joinQueue 25 = .ok (.iconst 2, 1) := by decide +kernel
theorem dL_joinQueue_26 : decode cL_joinQueue 26 = .ok (.ireturn, 1) := by decide +kernel
theorem dL_joinQueue_27 : decode cL_joinQueue 27 = .ok (.astore 7, 2) := by decide +kernel
theorem dL_joinQueue_29 : decode cL_joinQueue 29 = .ok (.iconst 3, 1) := by decide +kernel
theorem dL_joinQueue_30 : decode cL_joinQueue 30 = .ok (.ireturn, 1) := by decide +kernel
theorem dL_joinQueue_31 : decode cL_joinQueue 31 = .ok (.iconst 0, 1) := by decide +kernel
theorem dL_joinQueue_32 : decode cL_joinQueue 32 = .ok (.ireturn, 1) := by decide +kernel
theorem dL_sendAway_0 : decode cL_sendAway 0 = .ok (.aload_n 2, 1) := by decide +kernel
theorem dL_sendAway_1 : decode cL_sendAway 1 = .ok (.iconst 0, 1) := by decide +kernel
theorem dL_sendAway_2 : decode cL_sendAway 2 = .ok (.aload_n 0, 1) := by decide +kernel
theorem dL_sendAway_3 : decode cL_sendAway 3 = .ok (.iload_n 1, 1) := by decide +kernel
theorem dL_sendAway_4 : decode cL_sendAway 4 = .ok (.invokevirtual 141, 3) := by decide +kernel
theorem dL_sendAway_7 : decode cL_sendAway 7 = .ok (.i2l, 1) := by decide +kernel
theorem dL_sendAway_8 : decode cL_sendAway 8 = .ok (.lastore, 1) := by decide +kernel
theorem dL_sendAway_9 : decode cL_sendAway 9 = .ok (.goto 6, 3) := by decide +kernel
theorem dL_sendAway_12 : decode cL_sendAway 12 = .ok (.astore_n 3, 1) := by decide +kernel
theorem dL_sendAway_13 : decode cL_sendAway 13 = .ok (.iconst 1, 1) := by decide +kernel
theorem dL_sendAway_14 : decode cL_sendAway 14 = .ok (.ireturn, 1) := by decide +kernel
theorem dL_sendAway_15 : decode cL_sendAway 15 = .ok (.iconst 0, 1) := by decide +kernel
theorem dL_sendAway_16 : decode cL_sendAway 16 = .ok (.ireturn, 1) := by decide +kernel
theorem dL_setBasePrice_0 : decode cL_setBasePrice 0 = .ok (.aload_n 3, 1) := by decide +kernel
theorem dL_setBasePrice_1 : decode cL_setBasePrice 1 = .ok (.iconst 0, 1) := by decide +kernel
theorem dL_setBasePrice_2 : decode cL_setBasePrice 2 = .ok (.aload_n 0, 1) := by decide +kernel
theorem dL_setBasePrice_3 : decode cL_setBasePrice 3 = .ok (.iload_n 1, 1) := by decide +kernel
theorem dL_setBasePrice_4 : decode cL_setBasePrice 4 = .ok (.iload_n 2, 1) := by decide +kernel
theorem dL_setBasePrice_5 : decode cL_setBasePrice 5 = .ok (.invokevirtual 144, 3) := by decide +kernel
theorem dL_setBasePrice_8 : decode cL_setBasePrice 8 = .ok (.i2l, 1) := by decide +kernel
theorem dL_setBasePrice_9 : decode cL_setBasePrice 9 = .ok (.lastore, 1) := by decide +kernel
theorem dL_setBasePrice_10 : decode cL_setBasePrice 10 = .ok (.goto 11, 3) := by decide +kernel
theorem dL_setBasePrice_13 : decode cL_setBasePrice 13 = .ok (.astore 4, 2) := by decide +kernel
theorem dL_setBasePrice_15 : decode cL_setBasePrice 15 = .ok (.iconst 1, 1) := by decide +kernel
theorem dL_setBasePrice_16 : decode cL_setBasePrice 16 = .ok (.ireturn, 1) := by decide +kernel
theorem dL_setBasePrice_17 : decode cL_setBasePrice 17 = .ok (.astore 4, 2) := by decide +kernel
theorem dL_setBasePrice_19 : decode cL_setBasePrice 19 = .ok (.iconst 2, 1) := by decide +kernel
