theorem dX2_init_0 : decode cX2_init 0 = .ok (.aload_n 0, 1) := by decide +kernel
theorem dX2_init_1 : decode cX2_init 1 = .ok (.invokespecial 5, 3) := by decide +kernel
theorem dX2_init_4 : decode cX2_init 4 = .ok (.aload_n 0, 1) := by decide +kernel
theorem dX2_init_5 : decode cX2_init 5 = .ok (.bipush 16, 2) := by decide +kernel
theorem dX2_init_7 : decode cX2_init 7 = .ok (.newarray .boolean, 2) := by decide +kernel
theorem dX2_init_9 : decode cX2_init 9 = .ok (.putfield 11, 3) := by decide +kernel
theorem dX2_init_12 : decode cX2_init 12 = .ok (.aload_n 0, 1) := by decide +kernel
theorem dX2_init_13 : decode cX2_init 13 = .ok (.bipush 16, 2) := by decide +kernel
theorem dX2_init_15 : decode cX2_init 15 = .ok (.newarray .boolean, 2) := by decide +kernel
theorem dX2_init_17 : decode cX2_init 17 = .ok (.putfield 15, 3) := by decide +kernel
theorem dX2_init_20 : decode cX2_init 20 = .ok (.aload_n 0, 1) := by decide +kernel
theorem dX2_init_21 : decode cX2_init 21 = .ok (.bipush 16, 2) := by decide +kernel
theorem dX2_init_23 : decode cX2_init 23 = .ok (.newarray .int, 2) := by decide +kernel
theorem dX2_init_25 : decode cX2_init 25 = .ok (.putfield 18, 3) := by decide +kernel
theorem dX2_init_28 : decode cX2_init 28 = .ok (.aload_n 0, 1) := by decide +kernel
theorem dX2_init_29 : decode cX2_init 29 = .ok (.bipush 96, 2) := by decide +kernel
theorem dX2_init_31 : decode cX2_init 31 = .ok (.newarray .int, 2) := by decide +kernel
theorem dX2_init_33 : decode cX2_init 33 = .ok (.putfield 22, 3) := by decide +kernel
theorem dX2_init_36 : decode cX2_init 36 = .ok (.aload_n 0, 1) := by decide +kernel
theorem dX2_init_37 : decode cX2_init 37 = .ok (.sipush 1024, 3) := by decide +kernel
theorem dX2_init_40 : decode cX2_init 40 = .ok (.newarray .int, 2) := by decide +kernel
theorem dX2_init_42 : decode cX2_init 42 = .ok (.putfield 25, 3) := by decide +kernel
theorem dX2_init_45 : decode cX2_init 45 = .ok (.aload_n 0, 1) := by decide +kernel
theorem dX2_init_46 : decode cX2_init 46 = .ok (.sipush 1024, 3) := by decide +kernel
theorem dX2_init_49 : decode cX2_init 49 = .ok (.newarray .int, 2) := by decide +kernel
theorem dX2_init_51 : decode cX2_init 51 = .ok (.putfield 28, 3) := by decide +kernel
theorem dX2_init_54 : decode cX2_init 54 = .ok (.aload_n 0, 1) := by decide +kernel
theorem dX2_init_55 : decode cX2_init 55 = .ok (.bipush 32, 2) := by decide +kernel
theorem dX2_init_57 : decode cX2_init 57 = .ok (.newarray .int, 2) := by decide +kernel
theorem dX2_init_59 : decode cX2_init 59 = .ok (.putfield 31, 3) := by decide +kernel
theorem dX2_init_62 : decode cX2_init 62 = .ok (.aload_n 0, 1) := by decide +kernel
theorem dX2_init_63 : decode cX2_init 63 = .ok (.sipush 1024, 3) := by decide +kernel
theorem dX2_init_66 : decode cX2_init 66 = .ok (.newarray .int, 2) := by decide +kernel
theorem dX2_init_68 : decode cX2_init 68 = .ok (.putfield 34, 3) := by decide +kernel
theorem dX2_init_71 : decode cX2_init 71 = .ok (.aload_n 0, 1) := by decide +kernel
theorem dX2_init_72 : decode cX2_init 72 = .ok (.sipush 1024, 3) := by decide +kernel
theorem dX2_init_75 : decode cX2_init 75 = .ok (.newarray .int, 2) := by decide +kernel
theorem dX2_init_77 : decode cX2_init 77 = .ok (.putfield 37, 3) := by decide +kernel
theorem dX2_init_80 : decode cX2_init 80 = .ok (.aload_n 0, 1) := by decide +kernel
theorem dX2_init_81 : decode cX2_init 81 = .ok (.sipush 1024, 3) := by decide +kernel
theorem dX2_init_84 : decode cX2_init 84 = .ok (.newarray .int, 2) := by decide +kernel
theorem dX2_init_86 : decode cX2_init 86 = .ok (.putfield 40, 3) := by decide +kernel
theorem dX2_init_89 : decode cX2_init 89 = .ok (.return_, 1) := by decide +kernel
theorem dX2_least_0 : decode cX2_least 0 = .ok (.aload_n 0, 1) := by decide +kernel
theorem dX2_least_1 : decode cX2_least 1 = .ok (.aload_n 1, 1) := by decide +kernel
theorem dX2_least_2 : decode cX2_least 2 = .ok (.iload_n 2, 1) := by decide +kernel
theorem dX2_least_3 : decode cX2_least 3 = .ok (.invokevirtual 43, 3) := by decide +kernel
theorem dX2_least_6 : decode cX2_least 6 = .ok (.aload_n 0, 1) := by decide +kernel
theorem dX2_least_7 : decode cX2_least 7 = .ok (.iconst 0, 1) := by decide +kernel
theorem dX2_least_8 : decode cX2_least 8 = .ok (.iconst 0, 1) := by decide +kernel
theorem dX2_least_9 : decode cX2_least 9 = .ok (.invokevirtual 47, 3) := by decide +kernel
theorem dX2_least_12 : decode cX2_least 12 = .ok (.iconst 0, 1) := by decide +kernel
theorem dX2_least_13 : decode cX2_least 13 = .ok (.istore_n 3, 1) := by decide +kernel
theorem dX2_least_14 : decode cX2_least 14 = .ok (.iload_n 3, 1) := by decide +kernel
theorem dX2_least_15 : decode cX2_least 15 = .ok (.ldc 51, 2) := by decide +kernel
theorem dX2_least_17 : decode cX2_least 17 = .ok (.if_icmp .ge 36, 3) := by decide +kernel
theorem dX2_least_20 : decode cX2_least 20 = .ok (.aload_n 0, 1) := by decide +kernel
theorem dX2_least_21 : decode cX2_least 21 = .ok (.getfield 52, 3) := by decide +kernel
theorem dX2_least_24 : decode cX2_least 24 = .ok (.ifCond .le 29, 3) := by decide +kernel
theorem dX2_least_27 : decode cX2_least 27 = .ok (.aload_n 0, 1) := by decide +kernel
theorem dX2_least_28 : decode cX2_least 28 = .ok (.iload_n 3, 1) := by decide +kernel
theorem dX2_least_29 : decode cX2_least 29 = .ok (.invokevirtual 56, 3) := by decide +kernel
theorem dX2_least_32 : decode cX2_least 32 = .ok (.aload_n 0, 1) := by decide +kernel
theorem dX2_least_33 : decode cX2_least 33 = .ok (.getfield 25, 3) := by decide +kernel
theorem dX2_least_36 : decode cX2_least 36 = .ok (.aload_n 0, 1) := by decide +kernel
theorem dX2_least_37 : decode cX2_least 37 = .ok (.getfield 60, 3) := by decide +kernel
theorem dX2_least_40 : decode cX2_least 40 = .ok (.iaload, 1) := by decide +kernel
theorem dX2_least_41 : decode cX2_least 41 = .ok (.iload_n 3, 1) := by decide +kernel
theorem dX2_least_42 : decode cX2_least 42 = .ok (.if_icmp .ne 5, 3) := by decide +kernel
theorem dX2_least_45 : decode cX2_least 45 = .ok (.iload_n 3, 1) := by decide +kernel
theorem dX2_least_46 : decode cX2_least 46 = .ok (.ireturn, 1) := by decide +kernel
theorem dX2_least_47 : decode cX2_least 47 = .ok (.iinc 3 1, 3) := by decide +kernel
theorem dX2_least_50 : decode cX2_least 50 = .ok (.goto (-36), 3) := by decide +kernel
theorem dX2_least_53 : decode cX2_least 53 = .ok (.bipush (-9), 2) := by decide +kernel
theorem dX2_least_55 : decode cX2_least 55 = .ok (.ireturn, 1) := by decide +kernel
theorem dX2_prepare_0 : decode cX2_prepare 0 = .ok (.aload_n 0, 1) := by decide +kernel
theorem dX2_prepare_1 : decode cX2_prepare 1 = .ok (.aload_n 1, 1) := by decide +kernel
theorem dX2_prepare_2 : decode cX2_prepare 2 = .ok (.getfield 63, 3) := by decide +kernel
theorem dX2_prepare_5 : decode cX2_prepare 5 = .ok (.putfield 68, 3) := by decide +kernel
theorem dX2_prepare_8 : decode cX2_prepare 8 = .ok (.aload_n 0, 1) := by decide +kernel
theorem dX2_prepare_9 : decode cX2_prepare 9 = .ok (.aload_n 1, 1) := by decide +kernel
theorem dX2_prepare_10 : decode cX2_prepare 10 = .ok (.getfield 69, 3) := by decide +kernel
theorem dX2_prepare_13 : decode cX2_prepare 13 = .ok (.putfield 72, 3) := by decide +kernel
theorem dX2_prepare_16 : decode cX2_prepare 16 = .ok (.aload_n 0, 1) := by decide +kernel
theorem dX2_prepare_17 : decode cX2_prepare 17 = .ok (.aload_n 0, 1) := by decide +kernel
theorem dX2_prepare_18 : decode cX2_prepare 18 = .ok (.getfield 72, 3) := by decide +kernel
theorem dX2_prepare_21 : decode cX2_prepare 21 = .ok (.putfield 60, 3) := by decide +kernel
theorem dX2_prepare_24 : decode cX2_prepare 24 = .ok (.iconst 0, 1) := by decide +kernel
theorem dX2_prepare_25 : decode cX2_prepare 25 = .ok (.istore_n 3, 1) := by decide +kernel
theorem dX2_prepare_26 : decode cX2_prepare 26 = .ok (.iload_n 3, 1) := by decide +kernel
theorem dX2_prepare_27 : decode cX2_prepare 27 = .ok (.aload_n 0, 1) := by decide +kernel
theorem dX2_prepare_28 : decode cX2_prepare 28 = .ok (.getfield 68, 3) := by decide +kernel
theorem dX2_prepare_31 : decode cX2_prepare 31 = .ok (.if_icmp .ge 28, 3) := by decide +kernel
theorem dX2_prepare_34 : decode cX2_prepare 34 = .ok (.aload_n 0, 1) := by decide +kernel
theorem dX2_prepare_35 : decode cX2_prepare 35 = .ok (.dup, 1) := by decide +kernel
theorem dX2_prepare_36 : decode cX2_prepare 36 = .ok (.getfield 60, 3) := by decide +kernel
theorem dX2_prepare_39 : decode cX2_prepare 39 = .ok (.aload_n 0, 1) := by decide +kernel
theorem dX2_prepare_40 : decode cX2_prepare 40 = .ok (.getfield 72, 3) := by decide +kernel
theorem dX2_prepare_43 : decode cX2_prepare 43 = .ok (.iconst 2, 1) := by decide +kernel
theorem dX2_prepare_44 : decode cX2_prepare 44 = .ok (.iload_n 3, 1) := by decide +kernel
theorem dX2_prepare_45 : decode cX2_prepare 45 = .ok (.imul, 1) := by decide +kernel
theorem dX2_prepare_46 : decode cX2_prepare 46 = .ok (.iconst 2, 1) := by decide +kernel
theorem dX2_prepare_47 : decode cX2_prepare 47 = .ok (.iadd, 1) := by decide +kernel
theorem dX2_prepare_48 : decode cX2_prepare 48 = .ok (.ishl, 1) := by decide +kernel
theorem dX2_prepare_49 : decode cX2_prepare 49 = .ok (.iadd, 1) := by decide +kernel
theorem dX2_prepare_50 : decode cX2_prepare 50 = .ok (.putfield 60, 3) := by decide +kernel
theorem dX2_prepare_53 : decode cX2_prepare 53 = .ok (.iinc 3 1, 3) := by decide +kernel
theorem dX2_prepare_56 : decode cX2_prepare 56 = .ok (.goto (-30), 3) := by decide +kernel
theorem dX2_prepare_59 : decode cX2_prepare 59 = .ok (.aload_n 0, 1) := by decide +kernel
theorem dX2_prepare_60 : decode cX2_prepare 60 = .ok (.aload_n 1, 1) := by decide +kernel
theorem dX2_prepare_61 : decode cX2_prepare 61 = .ok (.getfield 75, 3) := by decide +kernel
theorem dX2_prepare_64 : decode cX2_prepare 64 = .ok (.bipush (-9), 2) := by decide +kernel
theorem dX2_prepare_66 : decode cX2_prepare 66 = .ok (.if_icmp .ne 8, 3) := by decide +kernel
theorem dX2_prepare_69 : decode cX2_prepare 69 = .ok (.ldc 78, 2) := by decide +kernel
theorem dX2_prepare_71 : decode cX2_prepare 71 = .ok (.goto 7, 3) := by decide +kernel
theorem dX2_prepare_74 : decode cX2_prepare 74 = .ok (.aload_n 1, 1) := by decide +kernel
theorem dX2_prepare_75 : decode cX2_prepare 75 = .ok (.getfield 75, 3) := by decide +kernel
theorem dX2_prepare_78 : decode cX2_prepare 78 = .ok (.putfield 79, 3) := by decide +kernel
theorem dX2_prepare_81 : decode cX2_prepare 81 = .ok (.iconst 0, 1) := by decide +kernel
theorem dX2_prepare_82 : decode cX2_prepare 82 = .ok (.istore_n 3, 1) := by decide +kernel
theorem dX2_prepare_83 : decode cX2_prepare 83 = .ok (.iload_n 3, 1) := by decide +kernel
theorem dX2_prepare_84 : decode cX2_prepare 84 = .ok (.iconst 1, 1) := by decide +kernel
theorem dX2_prepare_85 : decode cX2_prepare 85 = .ok (.aload_n 0, 1) := by decide +kernel
theorem dX2_prepare_86 : decode cX2_prepare 86 = .ok (.getfield 68, 3) := by decide +kernel
theorem dX2_prepare_89 : decode cX2_prepare 89 = .ok (.ishl, 1) := by decide +kernel
theorem dX2_prepare_90 : decode cX2_prepare 90 = .ok (.if_icmp .ge 16, 3) := by decide +kernel
theorem dX2_prepare_93 : decode cX2_prepare 93 = .ok (.aload_n 0, 1) := by decide +kernel
theorem dX2_prepare_94 : decode cX2_prepare 94 = .ok (.aload_n 1, 1) := by decide +kernel
theorem dX2_prepare_95 : decode cX2_prepare 95 = .ok (.iload_n 3, 1) := by decide +kernel
theorem dX2_prepare_96 : decode cX2_prepare 96 = .ok (.iload_n 2, 1) := by decide +kernel
theorem dX2_prepare_97 : decode cX2_prepare 97 = .ok (.invokevirtual 82, 3) := by decide +kernel
theorem dX2_prepare_100 : decode cX2_prepare 100 = .ok (.iinc 3 1, 3) := by decide +kernel
theorem dX2_prepare_103 : decode cX2_prepare 103 = .ok (.goto (-20), 3) := by decide +kernel
theorem dX2_prepare_106 : decode cX2_prepare 106 = .ok (.aload_n 0, 1) := by decide +kernel
theorem dX2_prepare_107 : decode cX2_prepare 107 = .ok (.iconst 0, 1) := by decide +kernel
theorem dX2_prepare_108 : decode cX2_prepare 108 = .ok (.putfield 86, 3) := by decide +kernel
theorem dX2_prepare_111 : decode cX2_prepare 111 = .ok (.aload_n 0, 1) := by decide +kernel
theorem dX2_prepare_112 : decode cX2_prepare 112 = .ok (.iconst 0, 1) := by decide +kernel
theorem dX2_prepare_113 : decode cX2_prepare 113 = .ok (.putfield 52, 3) := by decide +kernel
theorem dX2_prepare_116 : decode cX2_prepare 116 = .ok (.aload_n 0, 1) := by decide +kernel
theorem dX2_prepare_117 : decode cX2_prepare 117 = .ok (.getfield 25, 3) := by decide +kernel
theorem dX2_prepare_120 : decode cX2_prepare 120 = .ok (.ldc 78, 2) := by decide +kernel
theorem dX2_prepare_122 : decode cX2_prepare 122 = .ok (.invokestatic 89, 3) := by decide +kernel
theorem dX2_prepare_125 : decode cX2_prepare 125 = .ok (.aload_n 0, 1) := by decide +kernel
theorem dX2_prepare_126 : decode cX2_prepare 126 = .ok (.getfield 31, 3) := by decide +kernel
theorem dX2_prepare_129 : decode cX2_prepare 129 = .ok (.iconst (-1), 1) := by decide +kernel
theorem dX2_prepare_130 : decode cX2_prepare 130 = .ok (.invokestatic 89, 3) := by decide +kernel
theorem dX2_prepare_133 : decode cX2_prepare 133 = .ok (.return_, 1) := by decide +kernel
theorem dX2_prepareSet_0 : decode cX2_prepareSet 0 = .ok (.aload_n 1, 1) := by decide +kernel
theorem dX2_prepareSet_1 : decode cX2_prepareSet 1 = .ok (.iload_n 2, 1) := by decide +kernel
theorem dX2_prepareSet_2 : decode cX2_prepareSet 2 = .ok (.invokevirtual 95, 3) := by decide +kernel
theorem dX2_prepareSet_5 : decode cX2_prepareSet 5 = .ok (.istore 4, 2) := by decide +kernel
theorem dX2_prepareSet_7 : decode cX2_prepareSet 7 = .ok (.aload_n 0, 1) := by decide +kernel
theorem dX2_prepareSet_8 : decode cX2_prepareSet 8 = .ok (.getfield 11, 3) := by decide +kernel
theorem dX2_prepareSet_11 : decode cX2_prepareSet 11 = .ok (.iload_n 2, 1) := by decide +kernel
theorem dX2_prepareSet_12 : decode cX2_prepareSet 12 = .ok (.iload 4, 2) := by decide +kernel
theorem dX2_prepareSet_14 : decode cX2_prepareSet 14 = .ok (.aload_n 1, 1) := by decide +kernel
theorem dX2_prepareSet_15 : decode cX2_prepareSet 15 = .ok (.getfield 99, 3) := by decide +kernel
theorem dX2_prepareSet_18 : decode cX2_prepareSet 18 = .ok (.if_icmp .gt 7, 3) := by decide +kernel
theorem dX2_prepareSet_21 : decode cX2_prepareSet 21 = .ok (.iconst 1, 1) := by decide +kernel
theorem dX2_prepareSet_22 : decode cX2_prepareSet 22 = .ok (.goto 4, 3) := by decide +kernel
theorem dX2_prepareSet_25 : decode cX2_prepareSet 25 = .ok (.iconst 0, 1) := by decide +kernel
theorem dX2_prepareSet_26 : decode cX2_prepareSet 26 = .ok (.bastore, 1) := by decide +kernel
theorem dX2_prepareSet_27 : decode cX2_prepareSet 27 = .ok (.aload_n 0, 1) := by decide +kernel
theorem dX2_prepareSet_28 : decode cX2_prepareSet 28 = .ok (.getfield 15, 3) := by decide +kernel
theorem dX2_prepareSet_31 : decode cX2_prepareSet 31 = .ok (.iload_n 2, 1) := by decide +kernel
theorem dX2_prepareSet_32 : decode cX2_prepareSet 32 = .ok (.aload_n 1, 1) := by decide +kernel
theorem dX2_prepareSet_33 : decode cX2_prepareSet 33 = .ok (.iload_n 2, 1) := by decide +kernel
theorem dX2_prepareSet_34 : decode cX2_prepareSet 34 = .ok (.invokevirtual 102, 3) := by decide +kernel
theorem dX2_prepareSet_37 : decode cX2_prepareSet 37 = .ok (.iload_n 2, 1) := by decide +kernel
theorem dX2_prepareSet_38 : decode cX2_prepareSet 38 = .ok (.if_icmp .ne 7, 3) := by decide +kernel
theorem dX2_prepareSet_41 : decode cX2_prepareSet 41 = .ok (.iconst 1, 1) := by decide +kernel
theorem dX2_prepareSet_42 : decode cX2_prepareSet 42 = .ok (.goto 4, 3) := by decide +kernel
theorem dX2_prepareSet_45 : decode cX2_prepareSet 45 = .ok (.iconst 0, 1) := by decide +kernel
theorem dX2_prepareSet_46 : decode cX2_prepareSet 46 = .ok (.bastore, 1) := by decide +kernel
theorem dX2_prepareSet_47 : decode cX2_prepareSet 47 = .ok (.aload_n 0, 1) := by decide +kernel
theorem dX2_prepareSet_48 : decode cX2_prepareSet 48 = .ok (.getfield 18, 3) := by decide +kernel
theorem dX2_prepareSet_51 : decode cX2_prepareSet 51 = .ok (.iload_n 2, 1) := by decide +kernel
theorem dX2_prepareSet_52 : decode cX2_prepareSet 52 = .ok (.iconst 1, 1) := by decide +kernel
theorem dX2_prepareSet_53 : decode cX2_prepareSet 53 = .ok (.iastore, 1) := by decide +kernel
theorem dX2_prepareSet_54 : decode cX2_prepareSet 54 = .ok (.iconst 0, 1) := by decide +kernel
theorem dX2_prepareSet_55 : decode cX2_prepareSet 55 = .ok (.istore 5, 2) := by decide +kernel
theorem dX2_prepareSet_57 : decode cX2_prepareSet 57 = .ok (.iload 5, 2) := by decide +kernel
theorem dX2_prepareSet_59 : decode cX2_prepareSet 59 = .ok (.aload_n 0, 1) := by decide +kernel
theorem dX2_prepareSet_60 : decode cX2_prepareSet 60 = .ok (.getfield 68, 3) := by decide +kernel
theorem dX2_prepareSet_63 : decode cX2_prepareSet 63 = .ok (.if_icmp .ge 35, 3) := by decide +kernel
theorem dX2_prepareSet_66 : decode cX2_prepareSet 66 = .ok (.iload_n 2, 1) := by decide +kernel
theorem dX2_prepareSet_67 : decode cX2_prepareSet 67 = .ok (.iload 5, 2) := by decide +kernel
theorem dX2_prepareSet_69 : decode cX2_prepareSet 69 = .ok (.invokestatic 105, 3) := by decide +kernel
theorem dX2_prepareSet_72 : decode cX2_prepareSet 72 = .ok (.ifCond .eq 20, 3) := by decide +kernel
theorem dX2_prepareSet_75 : decode cX2_prepareSet 75 = .ok (.aload_n 0, 1) := by decide +kernel
theorem dX2_prepareSet_76 : decode cX2_prepareSet 76 = .ok (.getfield 18, 3) := by decide +kernel
theorem dX2_prepareSet_79 : decode cX2_prepareSet 79 = .ok (.iload_n 2, 1) := by decide +kernel
theorem dX2_prepareSet_80 : decode cX2_prepareSet 80 = .ok (.dup2, 1) := by decide +kernel
theorem dX2_prepareSet_81 : decode cX2_prepareSet 81 = .ok (.iaload, 1) := by decide +kernel
theorem dX2_prepareSet_82 : decode cX2_prepareSet 82 = .ok (.iconst 1, 1) := by decide +kernel
theorem dX2_prepareSet_83 : decode cX2_prepareSet 83 = .ok (.iconst 2, 1) := by decide +kernel
theorem dX2_prepareSet_84 : decode cX2_prepareSet 84 = .ok (.iload 5, 2) := by decide +kernel
theorem dX2_prepareSet_86 : decode cX2_prepareSet 86 = .ok (.imul, 1) := by decide +kernel
theorem dX2_prepareSet_87 : decode cX2_prepareSet 87 = .ok (.iconst 2, 1) := by decide +kernel
theorem dX2_prepareSet_88 : decode cX2_prepareSet 88 = .ok (.iadd, 1) := by decide +kernel
theorem dX2_prepareSet_89 : decode cX2_prepareSet 89 = .ok (.ishl, 1) := by decide +kernel
theorem dX2_prepareSet_90 : decode cX2_prepareSet 90 = .ok (.iadd, 1) := by decide +kernel
theorem dX2_prepareSet_91 : decode cX2_prepareSet 91 = .ok (.iastore, 1) := by decide +kernel
theorem dX2_prepareSet_92 : decode cX2_prepareSet 92 = .ok (.iinc 5 1, 3) := by decide +kernel
theorem dX2_prepareSet_95 : decode cX2_prepareSet 95 = .ok (.goto (-38), 3) := by decide +kernel
theorem dX2_prepareSet_98 : decode cX2_prepareSet 98 = .ok (.iconst 0, 1) := by decide +kernel
theorem dX2_prepareSet_99 : decode cX2_prepareSet 99 = .ok (.istore 5, 2) := by decide +kernel
theorem dX2_prepareSet_101 : decode cX2_prepareSet 101 = .ok (.iload 5, 2) := by decide +kernel
theorem dX2_prepareSet_103 : decode cX2_prepareSet 103 = .ok (.aload_n 0, 1) := by decide +kernel
theorem dX2_prepareSet_104 : decode cX2_prepareSet 104 = .ok (.getfield 72, 3) := by decide +kernel
theorem dX2_prepareSet_107 : decode cX2_prepareSet 107 = .ok (.if_icmp .ge 73, 3) := by decide +kernel
theorem dX2_prepareSet_110 : decode cX2_prepareSet 110 = .ok (.iload 5, 2) := by decide +kernel
theorem dX2_prepareSet_112 : decode cX2_prepareSet 112 = .ok (.bipush 16, 2) := by decide +kernel
theorem dX2_prepareSet_114 : decode cX2_prepareSet 114 = .ok (.imul, 1) := by decide +kernel
theorem dX2_prepareSet_115 : decode cX2_prepareSet 115 = .ok (.iload_n 2, 1) := by decide +kernel
theorem dX2_prepareSet_116 : decode cX2_prepareSet 116 = .ok (.iadd, 1) := by decide +kernel
theorem dX2_prepareSet_117 : decode cX2_prepareSet 117 = .ok (.istore 6, 2) := by decide +kernel
theorem dX2_prepareSet_119 : decode cX2_prepareSet 119 = .ok (.iload 6, 2) := by decide +kernel
theorem dX2_prepareSet_121 : decode cX2_prepareSet 121 = .ok (.bipush 48, 2) := by decide +kernel
theorem dX2_prepareSet_123 : decode cX2_prepareSet 123 = .ok (.iadd, 1) := by decide +kernel
theorem dX2_prepareSet_124 : decode cX2_prepareSet 124 = .ok (.istore 7, 2) := by decide +kernel
theorem dX2_prepareSet_126 : decode cX2_prepareSet 126 = .ok (.aload_n 0, 1) := by decide +kernel
theorem dX2_prepareSet_127 : decode cX2_prepareSet 127 = .ok (.getfield 22, 3) := by decide +kernel
theorem dX2_prepareSet_130 : decode cX2_prepareSet 130 = .ok (.iload 6, 2) := by decide +kernel
theorem dX2_prepareSet_132 : decode cX2_prepareSet 132 = .ok (.iload_n 3, 1) := by decide +kernel
theorem dX2_prepareSet_133 : decode cX2_prepareSet 133 = .ok (.ifCond .eq 7, 3) := by decide +kernel
theorem dX2_prepareSet_136 : decode cX2_prepareSet 136 = .ok (.iconst 1, 1) := by decide +kernel
theorem dX2_prepareSet_137 : decode cX2_prepareSet 137 = .ok (.goto 12, 3) := by decide +kernel
theorem dX2_prepareSet_140 : decode cX2_prepareSet 140 = .ok (.aload_n 1, 1) := by decide +kernel
theorem dX2_prepareSet_141 : decode cX2_prepareSet 141 = .ok (.iload 5, 2) := by decide +kernel
theorem dX2_prepareSet_143 : decode cX2_prepareSet 143 = .ok (.iload 4, 2) := by decide +kernel
theorem dX2_prepareSet_145 : decode cX2_prepareSet 145 = .ok (.iconst 0, 1) := by decide +kernel
theorem dX2_prepareSet_146 : decode cX2_prepareSet 146 = .ok (.invokevirtual 109, 3) := by decide +kernel
theorem dX2_prepareSet_149 : decode cX2_prepareSet 149 = .ok (.iastore, 1) := by decide +kernel
theorem dX2_prepareSet_150 : decode cX2_prepareSet 150 = .ok (.aload_n 0, 1) := by decide +kernel
theorem dX2_prepareSet_151 : decode cX2_prepareSet 151 = .ok (.getfield 22, 3) := by decide +kernel
theorem dX2_prepareSet_154 : decode cX2_prepareSet 154 = .ok (.iload 7, 2) := by decide +kernel
theorem dX2_prepareSet_156 : decode cX2_prepareSet 156 = .ok (.iload_n 3, 1) := by decide +kernel
theorem dX2_prepareSet_157 : decode cX2_prepareSet 157 = .ok (.ifCond .eq 7, 3) := by decide +kernel
theorem dX2_prepareSet_160 : decode cX2_prepareSet 160 = .ok (.iconst 1, 1) := by decide +kernel
theorem dX2_prepareSet_161 : decode cX2_prepareSet 161 = .ok (.goto 12, 3) := by decide +kernel
theorem dX2_prepareSet_164 : decode cX2_prepareSet 164 = .ok (.aload_n 1, 1) := by decide +kernel
theorem dX2_prepareSet_165 : decode cX2_prepareSet 165 = .ok (.iload 5, 2) := by decide +kernel
theorem dX2_prepareSet_167 : decode cX2_prepareSet 167 = .ok (.iload 4, 2) := by decide +kernel
theorem dX2_prepareSet_169 : decode cX2_prepareSet 169 = .ok (.iconst 1, 1) := by decide +kernel
theorem dX2_prepareSet_170 : decode cX2_prepareSet 170 = .ok (.invokevirtual 109, 3) := by decide +kernel
theorem dX2_prepareSet_173 : decode cX2_prepareSet 173 = .ok (.iastore, 1) := by decide +kernel
theorem dX2_prepareSet_174 : decode cX2_prepareSet 174 = .ok (.iinc 5 1, 3) := by decide +kernel
theorem dX2_prepareSet_177 : decode cX2_prepareSet 177 = .ok (.goto (-76), 3) := by decide +kernel
theorem dX2_prepareSet_180 : decode cX2_prepareSet 180 = .ok (.return_, 1) := by decide +kernel
theorem dX2_settleAll_0 : decode cX2_settleAll 0 = .ok (.aload_n 0, 1) := by decide +kernel
theorem dX2_settleAll_1 : decode cX2_settleAll 1 = .ok (.getfield 31, 3) := by decide +kernel
theorem dX2_settleAll_4 : decode cX2_settleAll 4 = .ok (.iload_n 1, 1) := by decide +kernel
theorem dX2_settleAll_5 : decode cX2_settleAll 5 = .ok (.bipush 32, 2) := by decide +kernel
theorem dX2_settleAll_7 : decode cX2_settleAll 7 = .ok (.irem, 1) := by decide +kernel
theorem dX2_settleAll_8 : decode cX2_settleAll 8 = .ok (.iaload, 1) := by decide +kernel
theorem dX2_settleAll_9 : decode cX2_settleAll 9 = .ok (.istore_n 2, 1) := by decide +kernel
theorem dX2_settleAll_10 : decode cX2_settleAll 10 = .ok (.aload_n 0, 1) := by decide +kernel
theorem dX2_settleAll_11 : decode cX2_settleAll 11 = .ok (.getfield 31, 3) := by decide +kernel
theorem dX2_settleAll_14 : decode cX2_settleAll 14 = .ok (.iload_n 1, 1) := by decide +kernel
theorem dX2_settleAll_15 : decode cX2_settleAll 15 = .ok (.bipush 32, 2) := by decide +kernel
theorem dX2_settleAll_17 : decode cX2_settleAll 17 = .ok (.irem, 1) := by decide +kernel
theorem dX2_settleAll_18 : decode cX2_settleAll 18 = .ok (.iconst (-1), 1) := by decide +kernel
theorem dX2_settleAll_19 : decode cX2_settleAll 19 = .ok (.iastore, 1) := by decide +kernel
theorem dX2_settleAll_20 : decode cX2_settleAll 20 = .ok (.iconst 0, 1) := by decide +kernel
theorem dX2_settleAll_21 : decode cX2_settleAll 21 = .ok (.istore_n 3, 1) := by decide +kernel
theorem dX2_settleAll_22 : decode cX2_settleAll 22 = .ok (.iload_n 3, 1) := by decide +kernel
theorem dX2_settleAll_23 : decode cX2_settleAll 23 = .ok (.sipush 1024, 3) := by decide +kernel
theorem dX2_settleAll_26 : decode cX2_settleAll 26 = .ok (.if_icmp .ge 67, 3) := by decide +kernel
theorem dX2_settleAll_29 : decode cX2_settleAll 29 = .ok (.iload_n 2, 1) := by decide +kernel
theorem dX2_settleAll_30 : decode cX2_settleAll 30 = .ok (.iconst (-1), 1) := by decide +kernel
theorem dX2_settleAll_31 : decode cX2_settleAll 31 = .ok (.if_icmp .eq 62, 3) := by decide +kernel
theorem dX2_settleAll_34 : decode cX2_settleAll 34 = .ok (.aload_n 0, 1) := by decide +kernel
theorem dX2_settleAll_35 : decode cX2_settleAll 35 = .ok (.getfield 86, 3) := by decide +kernel
theorem dX2_settleAll_38 : decode cX2_settleAll 38 = .ok (.sipush 1024, 3) := by decide +kernel
theorem dX2_settleAll_41 : decode cX2_settleAll 41 = .ok (.if_icmp .ge 52, 3) := by decide +kernel
theorem dX2_settleAll_44 : decode cX2_settleAll 44 = .ok (.aload_n 0, 1) := by decide +kernel
theorem dX2_settleAll_45 : decode cX2_settleAll 45 = .ok (.getfield 28, 3) := by decide +kernel
theorem dX2_settleAll_48 : decode cX2_settleAll 48 = .ok (.aload_n 0, 1) := by decide +kernel
theorem dX2_settleAll_49 : decode cX2_settleAll 49 = .ok (.getfield 86, 3) := by decide +kernel
theorem dX2_settleAll_52 : decode cX2_settleAll 52 = .ok (.iload_n 2, 1) := by decide +kernel
theorem dX2_settleAll_53 : decode cX2_settleAll 53 = .ok (.iastore, 1) := by decide +kernel
theorem dX2_settleAll_54 : decode cX2_settleAll 54 = .ok (.aload_n 0, 1) := by decide +kernel
theorem dX2_settleAll_55 : decode cX2_settleAll 55 = .ok (.dup, 1) := by decide +kernel
theorem dX2_settleAll_56 : decode cX2_settleAll 56 = .ok (.getfield 86, 3) := by decide +kernel
theorem dX2_settleAll_59 : decode cX2_settleAll 59 = .ok (.iconst 1, 1) := by decide +kernel
theorem dX2_settleAll_60 : decode cX2_settleAll 60 = .ok (.iadd, 1) := by decide +kernel
theorem dX2_settleAll_61 : decode cX2_settleAll 61 = .ok (.putfield 86, 3) := by decide +kernel
theorem dX2_settleAll_64 : decode cX2_settleAll 64 = .ok (.aload_n 0, 1) := by decide +kernel
theorem dX2_settleAll_65 : decode cX2_settleAll 65 = .ok (.dup, 1) := by decide +kernel
theorem dX2_settleAll_66 : decode cX2_settleAll 66 = .ok (.getfield 52, 3) := by decide +kernel
theorem dX2_settleAll_69 : decode cX2_settleAll 69 = .ok (.iconst 1, 1) := by decide +kernel
theorem dX2_settleAll_70 : decode cX2_settleAll 70 = .ok (.isub, 1) := by decide +kernel
theorem dX2_settleAll_71 : decode cX2_settleAll 71 = .ok (.putfield 52, 3) := by decide +kernel
theorem dX2_settleAll_74 : decode cX2_settleAll 74 = .ok (.aload_n 0, 1) := by decide +kernel
theorem dX2_settleAll_75 : decode cX2_settleAll 75 = .ok (.iload_n 2, 1) := by decide +kernel
theorem dX2_settleAll_76 : decode cX2_settleAll 76 = .ok (.iload_n 1, 1) := by decide +kernel
theorem dX2_settleAll_77 : decode cX2_settleAll 77 = .ok (.invokevirtual 113, 3) := by decide +kernel
theorem dX2_settleAll_80 : decode cX2_settleAll 80 = .ok (.aload_n 0, 1) := by decide +kernel
theorem dX2_settleAll_81 : decode cX2_settleAll 81 = .ok (.getfield 34, 3) := by decide +kernel
theorem dX2_settleAll_84 : decode cX2_settleAll 84 = .ok (.iload_n 2, 1) := by decide +kernel
theorem dX2_settleAll_85 : decode cX2_settleAll 85 = .ok (.iaload, 1) := by decide +kernel
theorem dX2_settleAll_86 : decode cX2_settleAll 86 = .ok (.istore_n 2, 1) := by decide +kernel
theorem dX2_settleAll_87 : decode cX2_settleAll 87 = .ok (.iinc 3 1, 3) := by decide +kernel
theorem dX2_settleAll_90 : decode cX2_settleAll 90 = .ok (.goto (-68), 3) := by decide +kernel
theorem dX2_settleAll_93 : decode cX2_settleAll 93 = .ok (.return_, 1) := by decide +kernel
theorem dX2_spread_0 : decode cX2_spread 0 = .ok (.aload_n 0, 1) := by decide +kernel
theorem dX2_spread_1 : decode cX2_spread 1 = .ok (.iload_n 1, 1) := by decide +kernel
theorem dX2_spread_2 : decode cX2_spread 2 = .ok (.invokevirtual 116, 3) := by decide +kernel
theorem dX2_spread_5 : decode cX2_spread 5 = .ok (.istore_n 3, 1) := by decide +kernel
theorem dX2_spread_6 : decode cX2_spread 6 = .ok (.iconst 0, 1) := by decide +kernel
theorem dX2_spread_7 : decode cX2_spread 7 = .ok (.istore 4, 2) := by decide +kernel
theorem dX2_spread_9 : decode cX2_spread 9 = .ok (.iload 4, 2) := by decide +kernel
theorem dX2_spread_11 : decode cX2_spread 11 = .ok (.bipush 32, 2) := by decide +kernel
theorem dX2_spread_13 : decode cX2_spread 13 = .ok (.if_icmp .ge 41, 3) := by decide +kernel
theorem dX2_spread_16 : decode cX2_spread 16 = .ok (.aload_n 0, 1) := by decide +kernel
theorem dX2_spread_17 : decode cX2_spread 17 = .ok (.iload_n 1, 1) := by decide +kernel
theorem dX2_spread_18 : decode cX2_spread 18 = .ok (.iload_n 3, 1) := by decide +kernel
theorem dX2_spread_19 : decode cX2_spread 19 = .ok (.iload 4, 2) := by decide +kernel
theorem dX2_spread_21 : decode cX2_spread 21 = .ok (.invokevirtual 119, 3) := by decide +kernel
theorem dX2_spread_24 : decode cX2_spread 24 = .ok (.istore 5, 2) := by decide +kernel
theorem dX2_spread_26 : decode cX2_spread 26 = .ok (.iload 5, 2) := by decide +kernel
theorem dX2_spread_28 : decode cX2_spread 28 = .ok (.iconst (-1), 1) := by decide +kernel
theorem dX2_spread_29 : decode cX2_spread 29 = .ok (.if_icmp .eq 19, 3) := by decide +kernel
theorem dX2_spread_32 : decode cX2_spread 32 = .ok (.aload_n 0, 1) := by decide +kernel
theorem dX2_spread_33 : decode cX2_spread 33 = .ok (.iload 5, 2) := by decide +kernel
theorem dX2_spread_35 : decode cX2_spread 35 = .ok (.iload_n 2, 1) := by decide +kernel
theorem dX2_spread_36 : decode cX2_spread 36 = .ok (.aload_n 0, 1) := by decide +kernel
theorem dX2_spread_37 : decode cX2_spread 37 = .ok (.iload_n 1, 1) := by decide +kernel
theorem dX2_spread_38 : decode cX2_spread 38 = .ok (.iload 4, 2) := by decide +kernel
theorem dX2_spread_40 : decode cX2_spread 40 = .ok (.iload_n 2, 1) := by decide +kernel
theorem dX2_spread_41 : decode cX2_spread 41 = .ok (.invokevirtual 123, 3) := by decide +kernel
theorem dX2_spread_44 : decode cX2_spread 44 = .ok (.iadd, 1) := by decide +kernel
theorem dX2_spread_45 : decode cX2_spread 45 = .ok (.invokevirtual 47, 3) := by decide +kernel
theorem dX2_spread_48 : decode cX2_spread 48 = .ok (.iinc 4 1, 3) := by decide +kernel
theorem dX2_spread_51 : decode cX2_spread 51 = .ok (.goto (-42), 3) := by decide +kernel
theorem dX2_spread_54 : decode cX2_spread 54 = .ok (.return_, 1) := by decide +kernel
theorem dX2_thingsHere_0 : decode cX2_thingsHere 0 = .ok (.iload_n 1, 1) := by decide +kernel
theorem dX2_thingsHere_1 : decode cX2_thingsHere 1 = .ok (.iconst 3, 1) := by decide +kernel
theorem dX2_thingsHere_2 : decode cX2_thingsHere 2 = .ok (.iand, 1) := by decide +kernel
theorem dX2_thingsHere_3 : decode cX2_thingsHere 3 = .ok (.istore_n 2, 1) := by decide +kernel
theorem dX2_thingsHere_4 : decode cX2_thingsHere 4 = .ok (.iconst 0, 1) := by decide +kernel
theorem dX2_thingsHere_5 : decode cX2_thingsHere 5 = .ok (.istore_n 3, 1) := by decide +kernel
theorem dX2_thingsHere_6 : decode cX2_thingsHere 6 = .ok (.iconst 0, 1) := by decide +kernel
theorem dX2_thingsHere_7 : decode cX2_thingsHere 7 = .ok (.istore 4, 2) := by decide +kernel
theorem dX2_thingsHere_9 : decode cX2_thingsHere 9 = .ok (.iload 4, 2) := by decide +kernel
theorem dX2_thingsHere_11 : decode cX2_thingsHere 11 = .ok (.aload_n 0, 1) := by decide +kernel
theorem dX2_thingsHere_12 : decode cX2_thingsHere 12 = .ok (.getfield 68, 3) := by decide +kernel
theorem dX2_thingsHere_15 : decode cX2_thingsHere 15 = .ok (.if_icmp .ge 30, 3) := by decide +kernel
theorem dX2_thingsHere_18 : decode cX2_thingsHere 18 = .ok (.iload_n 1, 1) := by decide +kernel
theorem dX2_thingsHere_19 : decode cX2_thingsHere 19 = .ok (.iconst 2, 1) := by decide +kernel
theorem dX2_thingsHere_20 : decode cX2_thingsHere 20 = .ok (.iload 4, 2) := by decide +kernel
theorem dX2_thingsHere_22 : decode cX2_thingsHere 22 = .ok (.imul, 1) := by decide +kernel
theorem dX2_thingsHere_23 : decode cX2_thingsHere 23 = .ok (.iconst 2, 1) := by decide +kernel
theorem dX2_thingsHere_24 : decode cX2_thingsHere 24 = .ok (.iadd, 1) := by decide +kernel
theorem dX2_thingsHere_25 : decode cX2_thingsHere 25 = .ok (.ishr, 1) := by decide +kernel
theorem dX2_thingsHere_26 : decode cX2_thingsHere 26 = .ok (.iconst 3, 1) := by decide +kernel
theorem dX2_thingsHere_27 : decode cX2_thingsHere 27 = .ok (.iand, 1) := by decide +kernel
theorem dX2_thingsHere_28 : decode cX2_thingsHere 28 = .ok (.iload_n 2, 1) := by decide +kernel
theorem dX2_thingsHere_29 : decode cX2_thingsHere 29 = .ok (.if_icmp .ne 10, 3) := by decide +kernel
theorem dX2_thingsHere_32 : decode cX2_thingsHere 32 = .ok (.iload_n 3, 1) := by decide +kernel
theorem dX2_thingsHere_33 : decode cX2_thingsHere 33 = .ok (.iconst 1, 1) := by decide +kernel
theorem dX2_thingsHere_34 : decode cX2_thingsHere 34 = .ok (.iload 4, 2) := by decide +kernel
theorem dX2_thingsHere_36 : decode cX2_thingsHere 36 = .ok (.ishl, 1) := by decide +kernel
theorem dX2_thingsHere_37 : decode cX2_thingsHere 37 = .ok (.ior, 1) := by decide +kernel
theorem dX2_thingsHere_38 : decode cX2_thingsHere 38 = .ok (.istore_n 3, 1) := by decide +kernel
theorem dX2_thingsHere_39 : decode cX2_thingsHere 39 = .ok (.iinc 4 1, 3) := by decide +kernel
theorem dX2_thingsHere_42 : decode cX2_thingsHere 42 = .ok (.goto (-33), 3) := by decide +kernel
theorem dX2_thingsHere_45 : decode cX2_thingsHere 45 = .ok (.iload_n 3, 1) := by decide +kernel
theorem dX2_thingsHere_46 : decode cX2_thingsHere 46 = .ok (.ireturn, 1) := by decide +kernel
theorem dX2_spotBehind_0 : decode cX2_spotBehind 0 = .ok (.iload_n 0, 1) := by decide +kernel
theorem dX2_spotBehind_1 : decode cX2_spotBehind 1 = .ok (.iconst 3, 1) := by decide +kernel
theorem dX2_spotBehind_2 : decode cX2_spotBehind 2 = .ok (.iand, 1) := by decide +kernel
theorem dX2_spotBehind_3 : decode cX2_spotBehind 3 = .ok (.iload_n 1, 1) := by decide +kernel
theorem dX2_spotBehind_4 : decode cX2_spotBehind 4 = .ok (.bipush 16, 2) := by decide +kernel
theorem dX2_spotBehind_6 : decode cX2_spotBehind 6 = .ok (.if_icmp .ge 7, 3) := by decide +kernel
theorem dX2_spotBehind_9 : decode cX2_spotBehind 9 = .ok (.iconst (-1), 1) := by decide +kernel
theorem dX2_spotBehind_10 : decode cX2_spotBehind 10 = .ok (.goto 4, 3) := by decide +kernel
theorem dX2_spotBehind_13 : decode cX2_spotBehind 13 = .ok (.iconst 1, 1) := by decide +kernel
theorem dX2_spotBehind_14 : decode cX2_spotBehind 14 = .ok (.iadd, 1) := by decide +kernel
theorem dX2_spotBehind_15 : decode cX2_spotBehind 15 = .ok (.ireturn, 1) := by decide +kernel
theorem dX2_stateBehind_0 : decode cX2_stateBehind 0 = .ok (.iload_n 3, 1) := by decide +kernel
theorem dX2_stateBehind_1 : decode cX2_stateBehind 1 = .ok (.bipush 16, 2) := by decide +kernel
theorem dX2_stateBehind_3 : decode cX2_stateBehind 3 = .ok (.irem, 1) := by decide +kernel
theorem dX2_stateBehind_4 : decode cX2_stateBehind 4 = .ok (.istore 4, 2) := by decide +kernel
theorem dX2_stateBehind_6 : decode cX2_stateBehind 6 = .ok (.iload_n 1, 1) := by decide +kernel
theorem dX2_stateBehind_7 : decode cX2_stateBehind 7 = .ok (.iload_n 3, 1) := by decide +kernel
theorem dX2_stateBehind_8 : decode cX2_stateBehind 8 = .ok (.invokestatic 126, 3) := by decide +kernel
theorem dX2_stateBehind_11 : decode cX2_stateBehind 11 = .ok (.istore 5, 2) := by decide +kernel
theorem dX2_stateBehind_13 : decode cX2_stateBehind 13 = .ok (.iload 5, 2) := by decide +kernel
theorem dX2_stateBehind_15 : decode cX2_stateBehind 15 = .ok (.ifCond .lt 21, 3) := by decide +kernel
theorem dX2_stateBehind_18 : decode cX2_stateBehind 18 = .ok (.iload 5, 2) := by decide +kernel
theorem dX2_stateBehind_20 : decode cX2_stateBehind 20 = .ok (.aload_n 0, 1) := by decide +kernel
theorem dX2_stateBehind_21 : decode cX2_stateBehind 21 = .ok (.getfield 72, 3) := by decide +kernel
theorem dX2_stateBehind_24 : decode cX2_stateBehind 24 = .ok (.if_icmp .gt 12, 3) := by decide +kernel
theorem dX2_stateBehind_27 : decode cX2_stateBehind 27 = .ok (.iload 4, 2) := by decide +kernel
theorem dX2_stateBehind_29 : decode cX2_stateBehind 29 = .ok (.iload_n 2, 1) := by decide +kernel
theorem dX2_stateBehind_30 : decode cX2_stateBehind 30 = .ok (.iconst (-1), 1) := by decide +kernel
theorem dX2_stateBehind_31 : decode cX2_stateBehind 31 = .ok (.ixor, 1) := by decide +kernel
theorem dX2_stateBehind_32 : decode cX2_stateBehind 32 = .ok (.iand, 1) := by decide +kernel
theorem dX2_stateBehind_33 : decode cX2_stateBehind 33 = .ok (.ifCond .eq 5, 3) := by decide +kernel
theorem dX2_stateBehind_36 : decode cX2_stateBehind 36 = .ok (.iconst (-1), 1) := by decide +kernel
theorem dX2_stateBehind_37 : decode cX2_stateBehind 37 = .ok (.ireturn, 1) := by decide +kernel
theorem dX2_stateBehind_38 : decode cX2_stateBehind 38 = .ok (.aload_n 0, 1) := by decide +kernel
theorem dX2_stateBehind_39 : decode cX2_stateBehind 39 = .ok (.getfield 11, 3) := by decide +kernel
theorem dX2_stateBehind_42 : decode cX2_stateBehind 42 = .ok (.iload 4, 2) := by decide +kernel
theorem dX2_stateBehind_44 : decode cX2_stateBehind 44 = .ok (.baload, 1) := by decide +kernel
theorem dX2_stateBehind_45 : decode cX2_stateBehind 45 = .ok (.ifCond .eq 17, 3) := by decide +kernel
theorem dX2_stateBehind_48 : decode cX2_stateBehind 48 = .ok (.aload_n 0, 1) := by decide +kernel
theorem dX2_stateBehind_49 : decode cX2_stateBehind 49 = .ok (.getfield 15, 3) := by decide +kernel
theorem dX2_stateBehind_52 : decode cX2_stateBehind 52 = .ok (.iload_n 2, 1) := by decide +kernel
theorem dX2_stateBehind_53 : decode cX2_stateBehind 53 = .ok (.iload 4, 2) := by decide +kernel
theorem dX2_stateBehind_55 : decode cX2_stateBehind 55 = .ok (.iconst (-1), 1) := by decide +kernel
theorem dX2_stateBehind_56 : decode cX2_stateBehind 56 = .ok (.ixor, 1) := by decide +kernel
theorem dX2_stateBehind_57 : decode cX2_stateBehind 57 = .ok (.iand, 1) := by decide +kernel
theorem dX2_stateBehind_58 : decode cX2_stateBehind 58 = .ok (.baload, 1) := by decide +kernel
theorem dX2_stateBehind_59 : decode cX2_stateBehind 59 = .ok (.ifCond .ne 5, 3) := by decide +kernel
theorem dX2_stateBehind_62 : decode cX2_stateBehind 62 = .ok (.iconst (-1), 1) := by decide +kernel
theorem dX2_stateBehind_63 : decode cX2_stateBehind 63 = .ok (.ireturn, 1) := by decide +kernel
theorem dX2_stateBehind_64 : decode cX2_stateBehind 64 = .ok (.iload_n 3, 1) := by decide +kernel
theorem dX2_stateBehind_65 : decode cX2_stateBehind 65 = .ok (.bipush 16, 2) := by decide +kernel
theorem dX2_stateBehind_67 : decode cX2_stateBehind 67 = .ok (.if_icmp .ge 15, 3) := by decide +kernel
theorem dX2_stateBehind_70 : decode cX2_stateBehind 70 = .ok (.iload_n 1, 1) := by decide +kernel
theorem dX2_stateBehind_71 : decode cX2_stateBehind 71 = .ok (.aload_n 0, 1) := by decide +kernel
theorem dX2_stateBehind_72 : decode cX2_stateBehind 72 = .ok (.getfield 18, 3) := by decide +kernel
theorem dX2_stateBehind_75 : decode cX2_stateBehind 75 = .ok (.iload 4, 2) := by decide +kernel
theorem dX2_stateBehind_77 : decode cX2_stateBehind 77 = .ok (.iaload, 1) := by decide +kernel
theorem dX2_stateBehind_78 : decode cX2_stateBehind 78 = .ok (.isub, 1) := by decide +kernel
theorem dX2_stateBehind_79 : decode cX2_stateBehind 79 = .ok (.goto 12, 3) := by decide +kernel
theorem dX2_stateBehind_82 : decode cX2_stateBehind 82 = .ok (.iload_n 1, 1) := by decide +kernel
theorem dX2_stateBehind_83 : decode cX2_stateBehind 83 = .ok (.aload_n 0, 1) := by decide +kernel
theorem dX2_stateBehind_84 : decode cX2_stateBehind 84 = .ok (.getfield 18, 3) := by decide +kernel
theorem dX2_stateBehind_87 : decode cX2_stateBehind 87 = .ok (.iload 4, 2) := by decide +kernel
theorem dX2_stateBehind_89 : decode cX2_stateBehind 89 = .ok (.iaload, 1) := by decide +kernel
theorem dX2_stateBehind_90 : decode cX2_stateBehind 90 = .ok (.iadd, 1) := by decide +kernel
theorem dX2_stateBehind_91 : decode cX2_stateBehind 91 = .ok (.ireturn, 1) := by decide +kernel
theorem dX2_minutesOf_0 : decode cX2_minutesOf 0 = .ok (.iload_n 1, 1) := by decide +kernel
theorem dX2_minutesOf_1 : decode cX2_minutesOf 1 = .ok (.iconst 3, 1) := by decide +kernel
theorem dX2_minutesOf_2 : decode cX2_minutesOf 2 = .ok (.iand, 1) := by decide +kernel
theorem dX2_minutesOf_3 : decode cX2_minutesOf 3 = .ok (.iload_n 2, 1) := by decide +kernel
theorem dX2_minutesOf_4 : decode cX2_minutesOf 4 = .ok (.bipush 16, 2) := by decide +kernel
theorem dX2_minutesOf_6 : decode cX2_minutesOf 6 = .ok (.if_icmp .ge 7, 3) := by decide +kernel
theorem dX2_minutesOf_9 : decode cX2_minutesOf 9 = .ok (.iconst 1, 1) := by decide +kernel
theorem dX2_minutesOf_10 : decode cX2_minutesOf 10 = .ok (.goto 4, 3) := by decide +kernel
theorem dX2_minutesOf_13 : decode cX2_minutesOf 13 = .ok (.iconst 0, 1) := by decide +kernel
theorem dX2_minutesOf_14 : decode cX2_minutesOf 14 = .ok (.isub, 1) := by decide +kernel
theorem dX2_minutesOf_15 : decode cX2_minutesOf 15 = .ok (.istore 4, 2) := by decide +kernel
theorem dX2_minutesOf_17 : decode cX2_minutesOf 17 = .ok (.iload_n 3, 1) := by decide +kernel
theorem dX2_minutesOf_18 : decode cX2_minutesOf 18 = .ok (.aload_n 0, 1) := by decide +kernel
theorem dX2_minutesOf_19 : decode cX2_minutesOf 19 = .ok (.getfield 79, 3) := by decide +kernel
theorem dX2_minutesOf_22 : decode cX2_minutesOf 22 = .ok (.if_icmp .lt 8, 3) := by decide +kernel
theorem dX2_minutesOf_25 : decode cX2_minutesOf 25 = .ok (.bipush 48, 2) := by decide +kernel
theorem dX2_minutesOf_27 : decode cX2_minutesOf 27 = .ok (.goto 4, 3) := by decide +kernel
theorem dX2_minutesOf_30 : decode cX2_minutesOf 30 = .ok (.iconst 0, 1) := by decide +kernel
theorem dX2_minutesOf_31 : decode cX2_minutesOf 31 = .ok (.istore 5, 2) := by decide +kernel
theorem dX2_minutesOf_33 : decode cX2_minutesOf 33 = .ok (.aload_n 0, 1) := by decide +kernel
theorem dX2_minutesOf_34 : decode cX2_minutesOf 34 = .ok (.getfield 22, 3) := by decide +kernel
theorem dX2_minutesOf_37 : decode cX2_minutesOf 37 = .ok (.iload 5, 2) := by decide +kernel
theorem dX2_minutesOf_39 : decode cX2_minutesOf 39 = .ok (.iload 4, 2) := by decide +kernel
theorem dX2_minutesOf_41 : decode cX2_minutesOf 41 = .ok (.bipush 16, 2) := by decide +kernel
theorem dX2_minutesOf_43 : decode cX2_minutesOf 43 = .ok (.imul, 1) := by decide +kernel
theorem dX2_minutesOf_44 : decode cX2_minutesOf 44 = .ok (.iadd, 1) := by decide +kernel
theorem dX2_minutesOf_45 : decode cX2_minutesOf 45 = .ok (.iload_n 2, 1) := by decide +kernel
theorem dX2_minutesOf_46 : decode cX2_minutesOf 46 = .ok (.bipush 16, 2) := by decide +kernel
theorem dX2_minutesOf_48 : decode cX2_minutesOf 48 = .ok (.irem, 1) := by decide +kernel
theorem dX2_minutesOf_49 : decode cX2_minutesOf 49 = .ok (.iadd, 1) := by decide +kernel
theorem dX2_minutesOf_50 : decode cX2_minutesOf 50 = .ok (.iaload, 1) := by decide +kernel
theorem dX2_minutesOf_51 : decode cX2_minutesOf 51 = .ok (.ireturn, 1) := by decide +kernel
theorem dX2_offer_0 : decode cX2_offer 0 = .ok (.iload_n 2, 1) := by decide +kernel
theorem dX2_offer_1 : decode cX2_offer 1 = .ok (.aload_n 0, 1) := by decide +kernel
theorem dX2_offer_2 : decode cX2_offer 2 = .ok (.getfield 25, 3) := by decide +kernel
theorem dX2_offer_5 : decode cX2_offer 5 = .ok (.iload_n 1, 1) := by decide +kernel
theorem dX2_offer_6 : decode cX2_offer 6 = .ok (.iaload, 1) := by decide +kernel
theorem dX2_offer_7 : decode cX2_offer 7 = .ok (.if_icmp .lt 4, 3) := by decide +kernel
theorem dX2_offer_10 : decode cX2_offer 10 = .ok (.return_, 1) := by decide +kernel
theorem dX2_offer_11 : decode cX2_offer 11 = .ok (.aload_n 0, 1) := by decide +kernel
theorem dX2_offer_12 : decode cX2_offer 12 = .ok (.getfield 25, 3) := by decide +kernel
theorem dX2_offer_15 : decode cX2_offer 15 = .ok (.iload_n 1, 1) := by decide +kernel
theorem dX2_offer_16 : decode cX2_offer 16 = .ok (.iaload, 1) := by decide +kernel
theorem dX2_offer_17 : decode cX2_offer 17 = .ok (.ldc 78, 2) := by decide +kernel
theorem dX2_offer_19 : decode cX2_offer 19 = .ok (.if_icmp .ne 16, 3) := by decide +kernel
theorem dX2_offer_22 : decode cX2_offer 22 = .ok (.aload_n 0, 1) := by decide +kernel
theorem dX2_offer_23 : decode cX2_offer 23 = .ok (.dup, 1) := by decide +kernel
theorem dX2_offer_24 : decode cX2_offer 24 = .ok (.getfield 52, 3) := by decide +kernel
theorem dX2_offer_27 : decode cX2_offer 27 = .ok (.iconst 1, 1) := by decide +kernel
theorem dX2_offer_28 : decode cX2_offer 28 = .ok (.iadd, 1) := by decide +kernel
theorem dX2_offer_29 : decode cX2_offer 29 = .ok (.putfield 52, 3) := by decide +kernel
theorem dX2_offer_32 : decode cX2_offer 32 = .ok (.goto 8, 3) := by decide +kernel
theorem dX2_offer_35 : decode cX2_offer 35 = .ok (.aload_n 0, 1) := by decide +kernel
theorem dX2_offer_36 : decode cX2_offer 36 = .ok (.iload_n 1, 1) := by decide +kernel
theorem dX2_offer_37 : decode cX2_offer 37 = .ok (.invokevirtual 130, 3) := by decide +kernel
theorem dX2_offer_40 : decode cX2_offer 40 = .ok (.aload_n 0, 1) := by decide +kernel
theorem dX2_offer_41 : decode cX2_offer 41 = .ok (.getfield 25, 3) := by decide +kernel
theorem dX2_offer_44 : decode cX2_offer 44 = .ok (.iload_n 1, 1) := by decide +kernel
theorem dX2_offer_45 : decode cX2_offer 45 = .ok (.iload_n 2, 1) := by decide +kernel
theorem dX2_offer_46 : decode cX2_offer 46 = .ok (.iastore, 1) := by decide +kernel
theorem dX2_offer_47 : decode cX2_offer 47 = .ok (.iload_n 2, 1) := by decide +kernel
theorem dX2_offer_48 : decode cX2_offer 48 = .ok (.bipush 32, 2) := by decide +kernel
theorem dX2_offer_50 : decode cX2_offer 50 = .ok (.irem, 1) := by decide +kernel
theorem dX2_offer_51 : decode cX2_offer 51 = .ok (.istore_n 3, 1) := by decide +kernel
theorem dX2_offer_52 : decode cX2_offer 52 = .ok (.aload_n 0, 1) := by decide +kernel
theorem dX2_offer_53 : decode cX2_offer 53 = .ok (.getfield 31, 3) := by decide +kernel
theorem dX2_offer_56 : decode cX2_offer 56 = .ok (.iload_n 3, 1) := by decide +kernel
theorem dX2_offer_57 : decode cX2_offer 57 = .ok (.iaload, 1) := by decide +kernel
theorem dX2_offer_58 : decode cX2_offer 58 = .ok (.istore 4, 2) := by decide +kernel
theorem dX2_offer_60 : decode cX2_offer 60 = .ok (.aload_n 0, 1) := by decide +kernel
theorem dX2_offer_61 : decode cX2_offer 61 = .ok (.getfield 34, 3) := by decide +kernel
theorem dX2_offer_64 : decode cX2_offer 64 = .ok (.iload_n 1, 1) := by decide +kernel
theorem dX2_offer_65 : decode cX2_offer 65 = .ok (.iload 4, 2) := by decide +kernel
theorem dX2_offer_67 : decode cX2_offer 67 = .ok (.iastore, 1) := by decide +kernel
theorem dX2_offer_68 : decode cX2_offer 68 = .ok (.aload_n 0, 1) := by decide +kernel
theorem dX2_offer_69 : decode cX2_offer 69 = .ok (.getfield 37, 3) := by decide +kernel
theorem dX2_offer_72 : decode cX2_offer 72 = .ok (.iload_n 1, 1) := by decide +kernel
theorem dX2_offer_73 : decode cX2_offer 73 = .ok (.iconst (-1), 1) := by decide +kernel
theorem dX2_offer_74 : decode cX2_offer 74 = .ok (.iastore, 1) := by decide +kernel
theorem dX2_offer_75 : decode cX2_offer 75 = .ok (.iload 4, 2) := by decide +kernel
theorem dX2_offer_77 : decode cX2_offer 77 = .ok (.iconst (-1), 1) := by decide +kernel
theorem dX2_offer_78 : decode cX2_offer 78 = .ok (.if_icmp .eq 11, 3) := by decide +kernel
theorem dX2_offer_81 : decode cX2_offer 81 = .ok (.aload_n 0, 1) := by decide +kernel
theorem dX2_offer_82 : decode cX2_offer 82 = .ok (.getfield 37, 3) := by decide +kernel
theorem dX2_offer_85 : decode cX2_offer 85 = .ok (.iload 4, 2) := by decide +kernel
theorem dX2_offer_87 : decode cX2_offer 87 = .ok (.iload_n 1, 1) := by decide +kernel
theorem dX2_offer_88 : decode cX2_offer 88 = .ok (.iastore, 1) := by decide +kernel
theorem dX2_offer_89 : decode cX2_offer 89 = .ok (.aload_n 0, 1) := by decide +kernel
theorem dX2_offer_90 : decode cX2_offer 90 = .ok (.getfield 31, 3) := by decide +kernel
theorem dX2_offer_93 : decode cX2_offer 93 = .ok (.iload_n 3, 1) := by decide +kernel
theorem dX2_offer_94 : decode cX2_offer 94 = .ok (.iload_n 1, 1) := by decide +kernel
theorem dX2_offer_95 : decode cX2_offer 95 = .ok (.iastore, 1) := by decide +kernel
theorem dX2_offer_96 : decode cX2_offer 96 = .ok (.return_, 1) := by decide +kernel
theorem dX2_takeOut_0 : decode cX2_takeOut 0 = .ok (.aload_n 0, 1) := by decide +kernel
theorem dX2_takeOut_1 : decode cX2_takeOut 1 = .ok (.getfield 34, 3) := by decide +kernel
theorem dX2_takeOut_4 : decode cX2_takeOut 4 = .ok (.iload_n 1, 1) := by decide +kernel
theorem dX2_takeOut_5 : decode cX2_takeOut 5 = .ok (.iaload, 1) := by decide +kernel
theorem dX2_takeOut_6 : decode cX2_takeOut 6 = .ok (.istore_n 2, 1) := by decide +kernel
theorem dX2_takeOut_7 : decode cX2_takeOut 7 = .ok (.aload_n 0, 1) := by decide +kernel
theorem dX2_takeOut_8 : decode cX2_takeOut 8 = .ok (.getfield 37, 3) := by decide +kernel
theorem dX2_takeOut_11 : decode cX2_takeOut 11 = .ok (.iload_n 1, 1) := by decide +kernel
theorem dX2_takeOut_12 : decode cX2_takeOut 12 = .ok (.iaload, 1) := by decide +kernel
theorem dX2_takeOut_13 : decode cX2_takeOut 13 = .ok (.istore_n 3, 1) := by decide +kernel
theorem dX2_takeOut_14 : decode cX2_takeOut 14 = .ok (.iload_n 2, 1) := by decide +kernel
theorem dX2_takeOut_15 : decode cX2_takeOut 15 = .ok (.iconst (-1), 1) := by decide +kernel
theorem dX2_takeOut_16 : decode cX2_takeOut 16 = .ok (.if_icmp .eq 10, 3) := by decide +kernel
theorem dX2_takeOut_19 : decode cX2_takeOut 19 = .ok (.aload_n 0, 1) := by decide +kernel
theorem dX2_takeOut_20 : decode cX2_takeOut 20 = .ok (.getfield 37, 3) := by decide +kernel
theorem dX2_takeOut_23 : decode cX2_takeOut 23 = .ok (.iload_n 2, 1) := by decide +kernel
theorem dX2_takeOut_24 : decode cX2_takeOut 24 = .ok (.iload_n 3, 1) := by decide +kernel
theorem dX2_takeOut_25 : decode cX2_takeOut 25 = .ok (.iastore, 1) := by decide +kernel
theorem dX2_takeOut_26 : decode cX2_takeOut 26 = .ok (.iload_n 3, 1) := by decide +kernel
theorem dX2_takeOut_27 : decode cX2_takeOut 27 = .ok (.iconst (-1), 1) := by decide +kernel
theorem dX2_takeOut_28 : decode cX2_takeOut 28 = .ok (.if_icmp .eq 13, 3) := by decide +kernel
theorem dX2_takeOut_31 : decode cX2_takeOut 31 = .ok (.aload_n 0, 1) := by decide +kernel
theorem dX2_takeOut_32 : decode cX2_takeOut 32 = .ok (.getfield 34, 3) := by decide +kernel
theorem dX2_takeOut_35 : decode cX2_takeOut 35 = .ok (.iload_n 3, 1) := by decide +kernel
theorem dX2_takeOut_36 : decode cX2_takeOut 36 = .ok (.iload_n 2, 1) := by decide +kernel
theorem dX2_takeOut_37 : decode cX2_takeOut 37 = .ok (.iastore, 1) := by decide +kernel
theorem dX2_takeOut_38 : decode cX2_takeOut 38 = .ok (.goto 18, 3) := by decide +kernel
theorem dX2_takeOut_41 : decode cX2_takeOut 41 = .ok (.aload_n 0, 1) := by decide +kernel
theorem dX2_takeOut_42 : decode cX2_takeOut 42 = .ok (.getfield 31, 3) := by decide +kernel
theorem dX2_takeOut_45 : decode cX2_takeOut 45 = .ok (.aload_n 0, 1) := by decide +kernel
theorem dX2_takeOut_46 : decode cX2_takeOut 46 = .ok (.getfield 25, 3) := by decide +kernel
theorem dX2_takeOut_49 : decode cX2_takeOut 49 = .ok (.iload_n 1, 1) := by decide +kernel
theorem dX2_takeOut_50 : decode cX2_takeOut 50 = .ok (.iaload, 1) := by decide +kernel
theorem dX2_takeOut_51 : decode cX2_takeOut 51 = .ok (.bipush 32, 2) := by decide +kernel
theorem dX2_takeOut_53 : decode cX2_takeOut 53 = .ok (.irem, 1) := by decide +kernel
theorem dX2_takeOut_54 : decode cX2_takeOut 54 = .ok (.iload_n 2, 1) := by decide +kernel
theorem dX2_takeOut_55 : decode cX2_takeOut 55 = .ok (.iastore, 1) := by decide +kernel
theorem dX2_takeOut_56 : decode cX2_takeOut 56 = .ok (.return_, 1) := by decide +kernel
theorem dX2_layRow_0 : decode cX2_layRow 0 = .ok (.aload_n 0, 1) := by decide +kernel
theorem dX2_layRow_1 : decode cX2_layRow 1 = .ok (.invokevirtual 133, 3) := by decide +kernel
theorem dX2_layRow_4 : decode cX2_layRow 4 = .ok (.iconst 0, 1) := by decide +kernel
theorem dX2_layRow_5 : decode cX2_layRow 5 = .ok (.istore_n 2, 1) := by decide +kernel
theorem dX2_layRow_6 : decode cX2_layRow 6 = .ok (.iconst 0, 1) := by decide +kernel
theorem dX2_layRow_7 : decode cX2_layRow 7 = .ok (.istore_n 3, 1) := by decide +kernel
theorem dX2_layRow_8 : decode cX2_layRow 8 = .ok (.iconst 0, 1) := by decide +kernel
theorem dX2_layRow_9 : decode cX2_layRow 9 = .ok (.istore 4, 2) := by decide +kernel
theorem dX2_layRow_11 : decode cX2_layRow 11 = .ok (.iload 4, 2) := by decide +kernel
theorem dX2_layRow_13 : decode cX2_layRow 13 = .ok (.aload_n 1, 1) := by decide +kernel
theorem dX2_layRow_14 : decode cX2_layRow 14 = .ok (.arraylength, 1) := by decide +kernel
theorem dX2_layRow_15 : decode cX2_layRow 15 = .ok (.if_icmp .ge 72, 3) := by decide +kernel
theorem dX2_layRow_18 : decode cX2_layRow 18 = .ok (.iload_n 2, 1) := by decide +kernel
theorem dX2_layRow_19 : decode cX2_layRow 19 = .ok (.aload_n 0, 1) := by decide +kernel
theorem dX2_layRow_20 : decode cX2_layRow 20 = .ok (.getfield 60, 3) := by decide +kernel
theorem dX2_layRow_23 : decode cX2_layRow 23 = .ok (.if_icmp .eq 64, 3) := by decide +kernel
theorem dX2_layRow_26 : decode cX2_layRow 26 = .ok (.iload_n 2, 1) := by decide +kernel
theorem dX2_layRow_27 : decode cX2_layRow 27 = .ok (.iconst (-1), 1) := by decide +kernel
theorem dX2_layRow_28 : decode cX2_layRow 28 = .ok (.if_icmp .eq 59, 3) := by decide +kernel
theorem dX2_layRow_31 : decode cX2_layRow 31 = .ok (.aload_n 0, 1) := by decide +kernel
theorem dX2_layRow_32 : decode cX2_layRow 32 = .ok (.iload_n 2, 1) := by decide +kernel
theorem dX2_layRow_33 : decode cX2_layRow 33 = .ok (.invokevirtual 136, 3) := by decide +kernel
theorem dX2_layRow_36 : decode cX2_layRow 36 = .ok (.istore 5, 2) := by decide +kernel
theorem dX2_layRow_38 : decode cX2_layRow 38 = .ok (.iload 5, 2) := by decide +kernel
theorem dX2_layRow_40 : decode cX2_layRow 40 = .ok (.iconst (-1), 1) := by decide +kernel
theorem dX2_layRow_41 : decode cX2_layRow 41 = .ok (.if_icmp .ne 5, 3) := by decide +kernel
theorem dX2_layRow_44 : decode cX2_layRow 44 = .ok (.iload_n 3, 1) := by decide +kernel
theorem dX2_layRow_45 : decode cX2_layRow 45 = .ok (.ireturn, 1) := by decide +kernel
theorem dX2_layRow_46 : decode cX2_layRow 46 = .ok (.aload_n 1, 1) := by decide +kernel
theorem dX2_layRow_47 : decode cX2_layRow 47 = .ok (.iload 4, 2) := by decide +kernel
theorem dX2_layRow_49 : decode cX2_layRow 49 = .ok (.iload_n 2, 1) := by decide +kernel
theorem dX2_layRow_50 : decode cX2_layRow 50 = .ok (.iload 5, 2) := by decide +kernel
theorem dX2_layRow_52 : decode cX2_layRow 52 = .ok (.invokestatic 126, 3) := by decide +kernel
theorem dX2_layRow_55 : decode cX2_layRow 55 = .ok (.bipush 16, 2) := by decide +kernel
theorem dX2_layRow_57 : decode cX2_layRow 57 = .ok (.imul, 1) := by decide +kernel
theorem dX2_layRow_58 : decode cX2_layRow 58 = .ok (.iload 5, 2) := by decide +kernel
theorem dX2_layRow_60 : decode cX2_layRow 60 = .ok (.bipush 16, 2) := by decide +kernel
theorem dX2_layRow_62 : decode cX2_layRow 62 = .ok (.irem, 1) := by decide +kernel
theorem dX2_layRow_63 : decode cX2_layRow 63 = .ok (.iadd, 1) := by decide +kernel
theorem dX2_layRow_64 : decode cX2_layRow 64 = .ok (.iastore, 1) := by decide +kernel
theorem dX2_layRow_65 : decode cX2_layRow 65 = .ok (.iinc 3 1, 3) := by decide +kernel
theorem dX2_layRow_68 : decode cX2_layRow 68 = .ok (.aload_n 0, 1) := by decide +kernel
theorem dX2_layRow_69 : decode cX2_layRow 69 = .ok (.iload_n 2, 1) := by decide +kernel
theorem dX2_layRow_70 : decode cX2_layRow 70 = .ok (.aload_n 0, 1) := by decide +kernel
theorem dX2_layRow_71 : decode cX2_layRow 71 = .ok (.iload_n 2, 1) := by decide +kernel
theorem dX2_layRow_72 : decode cX2_layRow 72 = .ok (.invokevirtual 116, 3) := by decide +kernel
theorem dX2_layRow_75 : decode cX2_layRow 75 = .ok (.iload 5, 2) := by decide +kernel
theorem dX2_layRow_77 : decode cX2_layRow 77 = .ok (.invokevirtual 119, 3) := by decide +kernel
theorem dX2_layRow_80 : decode cX2_layRow 80 = .ok (.istore_n 2, 1) := by decide +kernel
theorem dX2_layRow_81 : decode cX2_layRow 81 = .ok (.iinc 4 1, 3) := by decide +kernel
theorem dX2_layRow_84 : decode cX2_layRow 84 = .ok (.goto (-73), 3) := by decide +kernel
theorem dX2_layRow_87 : decode cX2_layRow 87 = .ok (.iload_n 3, 1) := by decide +kernel
theorem dX2_layRow_88 : decode cX2_layRow 88 = .ok (.ireturn, 1) := by decide +kernel
theorem dX2_countTripsLeft_0 : decode cX2_countTripsLeft 0 = .ok (.aload_n 0, 1) := by decide +kernel
theorem dX2_countTripsLeft_1 : decode cX2_countTripsLeft 1 = .ok (.getfield 40, 3) := by decide +kernel
theorem dX2_countTripsLeft_4 : decode cX2_countTripsLeft 4 = .ok (.ldc 78, 2) := by decide +kernel
theorem dX2_countTripsLeft_6 : decode cX2_countTripsLeft 6 = .ok (.invokestatic 89, 3) := by decide +kernel
theorem dX2_countTripsLeft_9 : decode cX2_countTripsLeft 9 = .ok (.aload_n 0, 1) := by decide +kernel
theorem dX2_countTripsLeft_10 : decode cX2_countTripsLeft 10 = .ok (.getfield 86, 3) := by decide +kernel
theorem dX2_countTripsLeft_13 : decode cX2_countTripsLeft 13 = .ok (.iconst 1, 1) := by decide +kernel
theorem dX2_countTripsLeft_14 : decode cX2_countTripsLeft 14 = .ok (.isub, 1) := by decide +kernel
theorem dX2_countTripsLeft_15 : decode cX2_countTripsLeft 15 = .ok (.istore_n 1, 1) := by decide +kernel
theorem dX2_countTripsLeft_16 : decode cX2_countTripsLeft 16 = .ok (.iload_n 1, 1) := by decide +kernel
theorem dX2_countTripsLeft_17 : decode cX2_countTripsLeft 17 = .ok (.ifCond .lt 84, 3) := by decide +kernel
theorem dX2_countTripsLeft_20 : decode cX2_countTripsLeft 20 = .ok (.aload_n 0, 1) := by decide +kernel
theorem dX2_countTripsLeft_21 : decode cX2_countTripsLeft 21 = .ok (.getfield 28, 3) := by decide +kernel
theorem dX2_countTripsLeft_24 : decode cX2_countTripsLeft 24 = .ok (.iload_n 1, 1) := by decide +kernel
theorem dX2_countTripsLeft_25 : decode cX2_countTripsLeft 25 = .ok (.iaload, 1) := by decide +kernel
theorem dX2_countTripsLeft_26 : decode cX2_countTripsLeft 26 = .ok (.istore_n 2, 1) := by decide +kernel
theorem dX2_countTripsLeft_27 : decode cX2_countTripsLeft 27 = .ok (.aload_n 0, 1) := by decide +kernel
theorem dX2_countTripsLeft_28 : decode cX2_countTripsLeft 28 = .ok (.iload_n 2, 1) := by decide +kernel
theorem dX2_countTripsLeft_29 : decode cX2_countTripsLeft 29 = .ok (.invokevirtual 136, 3) := by decide +kernel
theorem dX2_countTripsLeft_32 : decode cX2_countTripsLeft 32 = .ok (.istore_n 3, 1) := by decide +kernel
theorem dX2_countTripsLeft_33 : decode cX2_countTripsLeft 33 = .ok (.iload_n 2, 1) := by decide +kernel
theorem dX2_countTripsLeft_34 : decode cX2_countTripsLeft 34 = .ok (.aload_n 0, 1) := by decide +kernel
theorem dX2_countTripsLeft_35 : decode cX2_countTripsLeft 35 = .ok (.getfield 60, 3) := by decide +kernel
theorem dX2_countTripsLeft_38 : decode cX2_countTripsLeft 38 = .ok (.if_icmp .ne 13, 3) := by decide +kernel
theorem dX2_countTripsLeft_41 : decode cX2_countTripsLeft 41 = .ok (.aload_n 0, 1) := by decide +kernel
theorem dX2_countTripsLeft_42 : decode cX2_countTripsLeft 42 = .ok (.getfield 40, 3) := by decide +kernel
theorem dX2_countTripsLeft_45 : decode cX2_countTripsLeft 45 = .ok (.iload_n 2, 1) := by decide +kernel
theorem dX2_countTripsLeft_46 : decode cX2_countTripsLeft 46 = .ok (.iconst 0, 1) := by decide +kernel
theorem dX2_countTripsLeft_47 : decode cX2_countTripsLeft 47 = .ok (.iastore, 1) := by decide +kernel
theorem dX2_countTripsLeft_48 : decode cX2_countTripsLeft 48 = .ok (.goto 47, 3) := by decide +kernel
theorem dX2_countTripsLeft_51 : decode cX2_countTripsLeft 51 = .ok (.iload_n 3, 1) := by decide +kernel
theorem dX2_countTripsLeft_52 : decode cX2_countTripsLeft 52 = .ok (.iconst (-1), 1) := by decide +kernel
theorem dX2_countTripsLeft_53 : decode cX2_countTripsLeft 53 = .ok (.if_icmp .eq 42, 3) := by decide +kernel
theorem dX2_countTripsLeft_56 : decode cX2_countTripsLeft 56 = .ok (.aload_n 0, 1) := by decide +kernel
theorem dX2_countTripsLeft_57 : decode cX2_countTripsLeft 57 = .ok (.iload_n 2, 1) := by decide +kernel
theorem dX2_countTripsLeft_58 : decode cX2_countTripsLeft 58 = .ok (.aload_n 0, 1) := by decide +kernel
theorem dX2_countTripsLeft_59 : decode cX2_countTripsLeft 59 = .ok (.iload_n 2, 1) := by decide +kernel
theorem dX2_countTripsLeft_60 : decode cX2_countTripsLeft 60 = .ok (.invokevirtual 116, 3) := by decide +kernel
theorem dX2_countTripsLeft_63 : decode cX2_countTripsLeft 63 = .ok (.iload_n 3, 1) := by decide +kernel
theorem dX2_countTripsLeft_64 : decode cX2_countTripsLeft 64 = .ok (.invokevirtual 119, 3) := by decide +kernel
theorem dX2_countTripsLeft_67 : decode cX2_countTripsLeft 67 = .ok (.istore 4, 2) := by decide +kernel
theorem dX2_countTripsLeft_69 : decode cX2_countTripsLeft 69 = .ok (.aload_n 0, 1) := by decide +kernel
theorem dX2_countTripsLeft_70 : decode cX2_countTripsLeft 70 = .ok (.getfield 40, 3) := by decide +kernel
theorem dX2_countTripsLeft_73 : decode cX2_countTripsLeft 73 = .ok (.iload_n 2, 1) := by decide +kernel
theorem dX2_countTripsLeft_74 : decode cX2_countTripsLeft 74 = .ok (.iload 4, 2) := by decide +kernel
theorem dX2_countTripsLeft_76 : decode cX2_countTripsLeft 76 = .ok (.iconst (-1), 1) := by decide +kernel
theorem dX2_countTripsLeft_77 : decode cX2_countTripsLeft 77 = .ok (.if_icmp .ne 8, 3) := by decide +kernel
theorem dX2_countTripsLeft_80 : decode cX2_countTripsLeft 80 = .ok (.ldc 78, 2) := by decide +kernel
theorem dX2_countTripsLeft_82 : decode cX2_countTripsLeft 82 = .ok (.goto 12, 3) := by decide +kernel
theorem dX2_countTripsLeft_85 : decode cX2_countTripsLeft 85 = .ok (.aload_n 0, 1) := by decide +kernel
theorem dX2_countTripsLeft_86 : decode cX2_countTripsLeft 86 = .ok (.getfield 40, 3) := by decide +kernel
theorem dX2_countTripsLeft_89 : decode cX2_countTripsLeft 89 = .ok (.iload 4, 2) := by decide +kernel
theorem dX2_countTripsLeft_91 : decode cX2_countTripsLeft 91 = .ok (.iaload, 1) := by decide +kernel
theorem dX2_countTripsLeft_92 : decode cX2_countTripsLeft 92 = .ok (.iconst 1, 1) := by decide +kernel
theorem dX2_countTripsLeft_93 : decode cX2_countTripsLeft 93 = .ok (.iadd, 1) := by decide +kernel
theorem dX2_countTripsLeft_94 : decode cX2_countTripsLeft 94 = .ok (.iastore, 1) := by decide +kernel
theorem dX2_countTripsLeft_95 : decode cX2_countTripsLeft 95 = .ok (.iinc 1 (-1), 3) := by decide +kernel
theorem dX2_countTripsLeft_98 : decode cX2_countTripsLeft 98 = .ok (.goto (-82), 3) := by decide +kernel
theorem dX2_countTripsLeft_101 : decode cX2_countTripsLeft 101 = .ok (.return_, 1) := by decide +kernel
theorem dX2_bestMove_0 : decode cX2_bestMove 0 = .ok (.aload_n 0, 1) := by decide +kernel
theorem dX2_bestMove_1 : decode cX2_bestMove 1 = .ok (.iload_n 1, 1) := by decide +kernel
theorem dX2_bestMove_2 : decode cX2_bestMove 2 = .ok (.invokevirtual 116, 3) := by decide +kernel
theorem dX2_bestMove_5 : decode cX2_bestMove 5 = .ok (.istore_n 2, 1) := by decide +kernel
theorem dX2_bestMove_6 : decode cX2_bestMove 6 = .ok (.iconst (-1), 1) := by decide +kernel
theorem dX2_bestMove_7 : decode cX2_bestMove 7 = .ok (.istore_n 3, 1) := by decide +kernel
theorem dX2_bestMove_8 : decode cX2_bestMove 8 = .ok (.ldc 78, 2) := by decide +kernel
theorem dX2_bestMove_10 : decode cX2_bestMove 10 = .ok (.istore 4, 2) := by decide +kernel
theorem dX2_bestMove_12 : decode cX2_bestMove 12 = .ok (.iconst 0, 1) := by decide +kernel
theorem dX2_bestMove_13 : decode cX2_bestMove 13 = .ok (.istore 5, 2) := by decide +kernel
theorem dX2_bestMove_15 : decode cX2_bestMove 15 = .ok (.iload 5, 2) := by decide +kernel
theorem dX2_bestMove_17 : decode cX2_bestMove 17 = .ok (.bipush 32, 2) := by decide +kernel
theorem dX2_bestMove_19 : decode cX2_bestMove 19 = .ok (.if_icmp .ge 61, 3) := by decide +kernel
theorem dX2_bestMove_22 : decode cX2_bestMove 22 = .ok (.aload_n 0, 1) := by decide +kernel
theorem dX2_bestMove_23 : decode cX2_bestMove 23 = .ok (.iload_n 1, 1) := by decide +kernel
theorem dX2_bestMove_24 : decode cX2_bestMove 24 = .ok (.iload_n 2, 1) := by decide +kernel
theorem dX2_bestMove_25 : decode cX2_bestMove 25 = .ok (.iload 5, 2) := by decide +kernel
theorem dX2_bestMove_27 : decode cX2_bestMove 27 = .ok (.invokevirtual 119, 3) := by decide +kernel
theorem dX2_bestMove_30 : decode cX2_bestMove 30 = .ok (.istore 6, 2) := by decide +kernel
theorem dX2_bestMove_32 : decode cX2_bestMove 32 = .ok (.iload 6, 2) := by decide +kernel
theorem dX2_bestMove_34 : decode cX2_bestMove 34 = .ok (.iconst (-1), 1) := by decide +kernel
theorem dX2_bestMove_35 : decode cX2_bestMove 35 = .ok (.if_icmp .eq 39, 3) := by decide +kernel
theorem dX2_bestMove_38 : decode cX2_bestMove 38 = .ok (.aload_n 0, 1) := by decide +kernel
theorem dX2_bestMove_39 : decode cX2_bestMove 39 = .ok (.getfield 40, 3) := by decide +kernel
theorem dX2_bestMove_42 : decode cX2_bestMove 42 = .ok (.iload 6, 2) := by decide +kernel
theorem dX2_bestMove_44 : decode cX2_bestMove 44 = .ok (.iaload, 1) := by decide +kernel
theorem dX2_bestMove_45 : decode cX2_bestMove 45 = .ok (.iload 4, 2) := by decide +kernel
theorem dX2_bestMove_47 : decode cX2_bestMove 47 = .ok (.if_icmp .ge 27, 3) := by decide +kernel
theorem dX2_bestMove_50 : decode cX2_bestMove 50 = .ok (.aload_n 0, 1) := by decide +kernel
theorem dX2_bestMove_51 : decode cX2_bestMove 51 = .ok (.iload_n 1, 1) := by decide +kernel
theorem dX2_bestMove_52 : decode cX2_bestMove 52 = .ok (.iload 5, 2) := by decide +kernel
theorem dX2_bestMove_54 : decode cX2_bestMove 54 = .ok (.iload 6, 2) := by decide +kernel
theorem dX2_bestMove_56 : decode cX2_bestMove 56 = .ok (.invokevirtual 139, 3) := by decide +kernel
theorem dX2_bestMove_59 : decode cX2_bestMove 59 = .ok (.ifCond .eq 15, 3) := by decide +kernel
theorem dX2_bestMove_62 : decode cX2_bestMove 62 = .ok (.iload 5, 2) := by decide +kernel
theorem dX2_bestMove_64 : decode cX2_bestMove 64 = .ok (.istore_n 3, 1) := by decide +kernel
theorem dX2_bestMove_65 : decode cX2_bestMove 65 = .ok (.aload_n 0, 1) := by decide +kernel
theorem dX2_bestMove_66 : decode cX2_bestMove 66 = .ok (.getfield 40, 3) := by decide +kernel
theorem dX2_bestMove_69 : decode cX2_bestMove 69 = .ok (.iload 6, 2) := by decide +kernel
theorem dX2_bestMove_71 : decode cX2_bestMove 71 = .ok (.iaload, 1) := by decide +kernel
theorem dX2_bestMove_72 : decode cX2_bestMove 72 = .ok (.istore 4, 2) := by decide +kernel
theorem dX2_bestMove_74 : decode cX2_bestMove 74 = .ok (.iinc 5 1, 3) := by decide +kernel
theorem dX2_bestMove_77 : decode cX2_bestMove 77 = .ok (.goto (-62), 3) := by decide +kernel
theorem dX2_bestMove_80 : decode cX2_bestMove 80 = .ok (.iload_n 3, 1) := by decide +kernel
theorem dX2_bestMove_81 : decode cX2_bestMove 81 = .ok (.ireturn, 1) := by decide +kernel
theorem dX2_isInTime_0 : decode cX2_isInTime 0 = .ok (.aload_n 0, 1) := by decide +kernel
theorem dX2_isInTime_1 : decode cX2_isInTime 1 = .ok (.getfield 25, 3) := by decide +kernel
theorem dX2_isInTime_4 : decode cX2_isInTime 4 = .ok (.iload_n 3, 1) := by decide +kernel
theorem dX2_isInTime_5 : decode cX2_isInTime 5 = .ok (.iaload, 1) := by decide +kernel
theorem dX2_isInTime_6 : decode cX2_isInTime 6 = .ok (.aload_n 0, 1) := by decide +kernel
theorem dX2_isInTime_7 : decode cX2_isInTime 7 = .ok (.getfield 25, 3) := by decide +kernel
theorem dX2_isInTime_10 : decode cX2_isInTime 10 = .ok (.iload_n 1, 1) := by decide +kernel
theorem dX2_isInTime_11 : decode cX2_isInTime 11 = .ok (.iaload, 1) := by decide +kernel
theorem dX2_isInTime_12 : decode cX2_isInTime 12 = .ok (.aload_n 0, 1) := by decide +kernel
theorem dX2_isInTime_13 : decode cX2_isInTime 13 = .ok (.iload_n 1, 1) := by decide +kernel
theorem dX2_isInTime_14 : decode cX2_isInTime 14 = .ok (.iload_n 2, 1) := by decide +kernel
theorem dX2_isInTime_15 : decode cX2_isInTime 15 = .ok (.aload_n 0, 1) := by decide +kernel
theorem dX2_isInTime_16 : decode cX2_isInTime 16 = .ok (.getfield 25, 3) := by decide +kernel
theorem dX2_isInTime_19 : decode cX2_isInTime 19 = .ok (.iload_n 1, 1) := by decide +kernel
theorem dX2_isInTime_20 : decode cX2_isInTime 20 = .ok (.iaload, 1) := by decide +kernel
theorem dX2_isInTime_21 : decode cX2_isInTime 21 = .ok (.invokevirtual 123, 3) := by decide +kernel
theorem dX2_isInTime_24 : decode cX2_isInTime 24 = .ok (.iadd, 1) := by decide +kernel
theorem dX2_isInTime_25 : decode cX2_isInTime 25 = .ok (.if_icmp .ne 7, 3) := by decide +kernel
theorem dX2_isInTime_28 : decode cX2_isInTime 28 = .ok (.iconst 1, 1) := by decide +kernel
theorem dX2_isInTime_29 : decode cX2_isInTime 29 = .ok (.goto 4, 3) := by decide +kernel
theorem dX2_isInTime_32 : decode cX2_isInTime 32 = .ok (.iconst 0, 1) := by decide +kernel
theorem dX2_isInTime_33 : decode cX2_isInTime 33 = .ok (.ireturn, 1) := by decide +kernel
