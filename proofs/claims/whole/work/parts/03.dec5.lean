theorem dX5_init_0 : decode cX5_init 0 = .ok (.aload_n 0, 1) := by decide +kernel
theorem dX5_init_1 : decode cX5_init 1 = .ok (.invokespecial 3, 3) := by decide +kernel
theorem dX5_init_4 : decode cX5_init 4 = .ok (.aload_n 0, 1) := by decide +kernel
theorem dX5_init_5 : decode cX5_init 5 = .ok (.new 9, 3) := by decide +kernel
theorem dX5_init_8 : decode cX5_init 8 = .ok (.dup, 1) := by decide +kernel
theorem dX5_init_9 : decode cX5_init 9 = .ok (.invokespecial 11, 3) := by decide +kernel
theorem dX5_init_12 : decode cX5_init 12 = .ok (.putfield 12, 3) := by decide +kernel
theorem dX5_init_15 : decode cX5_init 15 = .ok (.aload_n 0, 1) := by decide +kernel
theorem dX5_init_16 : decode cX5_init 16 = .ok (.new 9, 3) := by decide +kernel
theorem dX5_init_19 : decode cX5_init 19 = .ok (.dup, 1) := by decide +kernel
theorem dX5_init_20 : decode cX5_init 20 = .ok (.invokespecial 11, 3) := by decide +kernel
theorem dX5_init_23 : decode cX5_init 23 = .ok (.putfield 18, 3) := by decide +kernel
theorem dX5_init_26 : decode cX5_init 26 = .ok (.aload_n 0, 1) := by decide +kernel
theorem dX5_init_27 : decode cX5_init 27 = .ok (.iconst 4, 1) := by decide +kernel
theorem dX5_init_28 : decode cX5_init 28 = .ok (.anewarray 21, 3) := by decide +kernel
theorem dX5_init_31 : decode cX5_init 31 = .ok (.putfield 23, 3) := by decide +kernel
theorem dX5_init_34 : decode cX5_init 34 = .ok (.aload_n 0, 1) := by decide +kernel
theorem dX5_init_35 : decode cX5_init 35 = .ok (.new 27, 3) := by decide +kernel
theorem dX5_init_38 : decode cX5_init 38 = .ok (.dup, 1) := by decide +kernel
theorem dX5_init_39 : decode cX5_init 39 = .ok (.invokespecial 29, 3) := by decide +kernel
theorem dX5_init_42 : decode cX5_init 42 = .ok (.putfield 30, 3) := by decide +kernel
theorem dX5_init_45 : decode cX5_init 45 = .ok (.aload_n 0, 1) := by decide +kernel
theorem dX5_init_46 : decode cX5_init 46 = .ok (.new 34, 3) := by decide +kernel
theorem dX5_init_49 : decode cX5_init 49 = .ok (.dup, 1) := by decide +kernel
theorem dX5_init_50 : decode cX5_init 50 = .ok (.invokespecial 36, 3) := by decide +kernel
theorem dX5_init_53 : decode cX5_init 53 = .ok (.putfield 37, 3) := by decide +kernel
theorem dX5_init_56 : decode cX5_init 56 = .ok (.aload_n 0, 1) := by decide +kernel
theorem dX5_init_57 : decode cX5_init 57 = .ok (.new 41, 3) := by decide +kernel
theorem dX5_init_60 : decode cX5_init 60 = .ok (.dup, 1) := by decide +kernel
theorem dX5_init_61 : decode cX5_init 61 = .ok (.invokespecial 43, 3) := by decide +kernel
theorem dX5_init_64 : decode cX5_init 64 = .ok (.putfield 44, 3) := by decide +kernel
theorem dX5_init_67 : decode cX5_init 67 = .ok (.aload_n 0, 1) := by decide +kernel
theorem dX5_init_68 : decode cX5_init 68 = .ok (.sipush 1024, 3) := by decide +kernel
theorem dX5_init_71 : decode cX5_init 71 = .ok (.newarray .int, 2) := by decide +kernel
theorem dX5_init_73 : decode cX5_init 73 = .ok (.putfield 48, 3) := by decide +kernel
theorem dX5_init_76 : decode cX5_init 76 = .ok (.iconst 0, 1) := by decide +kernel
theorem dX5_init_77 : decode cX5_init 77 = .ok (.istore_n 1, 1) := by decide +kernel
theorem dX5_init_78 : decode cX5_init 78 = .ok (.iload_n 1, 1) := by decide +kernel
theorem dX5_init_79 : decode cX5_init 79 = .ok (.iconst 4, 1) := by decide +kernel
theorem dX5_init_80 : decode cX5_init 80 = .ok (.if_icmp .ge 22, 3) := by decide +kernel
theorem dX5_init_83 : decode cX5_init 83 = .ok (.aload_n 0, 1) := by decide +kernel
theorem dX5_init_84 : decode cX5_init 84 = .ok (.getfield 23, 3) := by decide +kernel
theorem dX5_init_87 : decode cX5_init 87 = .ok (.iload_n 1, 1) := by decide +kernel
theorem dX5_init_88 : decode cX5_init 88 = .ok (.new 21, 3) := by decide +kernel
theorem dX5_init_91 : decode cX5_init 91 = .ok (.dup, 1) := by decide +kernel
theorem dX5_init_92 : decode cX5_init 92 = .ok (.invokespecial 52, 3) := by decide +kernel
theorem dX5_init_95 : decode cX5_init 95 = .ok (.aastore, 1) := by decide +kernel
theorem dX5_init_96 : decode cX5_init 96 = .ok (.iinc 1 1, 3) := by decide +kernel
theorem dX5_init_99 : decode cX5_init 99 = .ok (.goto (-21), 3) := by decide +kernel
theorem dX5_init_102 : decode cX5_init 102 = .ok (.return_, 1) := by decide +kernel
theorem dX5_portage_0 : decode cX5_portage 0 = .ok (.aload_n 0, 1) := by decide +kernel
theorem dX5_portage_1 : decode cX5_portage 1 = .ok (.iconst 0, 1) := by decide +kernel
theorem dX5_portage_2 : decode cX5_portage 2 = .ok (.putfield 53, 3) := by decide +kernel
theorem dX5_portage_5 : decode cX5_portage 5 = .ok (.iload_n 1, 1) := by decide +kernel
theorem dX5_portage_6 : decode cX5_portage 6 = .ok (.invokestatic 57, 3) := by decide +kernel
theorem dX5_portage_9 : decode cX5_portage 9 = .ok (.ifCond .ne 5, 3) := by decide +kernel
theorem dX5_portage_12 : decode cX5_portage 12 = .ok (.iconst (-1), 1) := by decide +kernel
theorem dX5_portage_13 : decode cX5_portage 13 = .ok (.ireturn, 1) := by decide +kernel
theorem dX5_portage_14 : decode cX5_portage 14 = .ok (.iload_n 2, 1) := by decide +kernel
theorem dX5_portage_15 : decode cX5_portage 15 = .ok (.invokestatic 61, 3) := by decide +kernel
theorem dX5_portage_18 : decode cX5_portage 18 = .ok (.ifCond .ne 6, 3) := by decide +kernel
theorem dX5_portage_21 : decode cX5_portage 21 = .ok (.bipush (-2), 2) := by decide +kernel
theorem dX5_portage_23 : decode cX5_portage 23 = .ok (.ireturn, 1) := by decide +kernel
theorem dX5_portage_24 : decode cX5_portage 24 = .ok (.aload_n 0, 1) := by decide +kernel
theorem dX5_portage_25 : decode cX5_portage 25 = .ok (.getfield 23, 3) := by decide +kernel
theorem dX5_portage_28 : decode cX5_portage 28 = .ok (.iload_n 1, 1) := by decide +kernel
theorem dX5_portage_29 : decode cX5_portage 29 = .ok (.aaload, 1) := by decide +kernel
theorem dX5_portage_30 : decode cX5_portage 30 = .ok (.astore 5, 2) := by decide +kernel
theorem dX5_portage_32 : decode cX5_portage 32 = .ok (.aload 5, 2) := by decide +kernel
theorem dX5_portage_34 : decode cX5_portage 34 = .ok (.iload_n 2, 1) := by decide +kernel
theorem dX5_portage_35 : decode cX5_portage 35 = .ok (.invokevirtual 64, 3) := by decide +kernel
theorem dX5_portage_38 : decode cX5_portage 38 = .ok (.istore 6, 2) := by decide +kernel
theorem dX5_portage_40 : decode cX5_portage 40 = .ok (.iload 6, 2) := by decide +kernel
theorem dX5_portage_42 : decode cX5_portage 42 = .ok (.ifCond .eq 10, 3) := by decide +kernel
theorem dX5_portage_45 : decode cX5_portage 45 = .ok (.aload_n 0, 1) := by decide +kernel
theorem dX5_portage_46 : decode cX5_portage 46 = .ok (.iload 6, 2) := by decide +kernel
theorem dX5_portage_48 : decode cX5_portage 48 = .ok (.invokevirtual 68, 3) := by decide +kernel
theorem dX5_portage_51 : decode cX5_portage 51 = .ok (.ireturn, 1) := by decide +kernel
theorem dX5_portage_52 : decode cX5_portage 52 = .ok (.iload 4, 2) := by decide +kernel
theorem dX5_portage_54 : decode cX5_portage 54 = .ok (.ifCond .ge 9, 3) := by decide +kernel
theorem dX5_portage_57 : decode cX5_portage 57 = .ok (.aload_n 0, 1) := by decide +kernel
theorem dX5_portage_58 : decode cX5_portage 58 = .ok (.iconst 4, 1) := by decide +kernel
theorem dX5_portage_59 : decode cX5_portage 59 = .ok (.invokevirtual 68, 3) := by decide +kernel
theorem dX5_portage_62 : decode cX5_portage 62 = .ok (.ireturn, 1) := by decide +kernel
theorem dX5_portage_63 : decode cX5_portage 63 = .ok (.aload 5, 2) := by decide +kernel
theorem dX5_portage_65 : decode cX5_portage 65 = .ok (.iload_n 3, 1) := by decide +kernel
theorem dX5_portage_66 : decode cX5_portage 66 = .ok (.iload 4, 2) := by decide +kernel
theorem dX5_portage_68 : decode cX5_portage 68 = .ok (.invokevirtual 71, 3) := by decide +kernel
theorem dX5_portage_71 : decode cX5_portage 71 = .ok (.ifCond .ne 9, 3) := by decide +kernel
theorem dX5_portage_74 : decode cX5_portage 74 = .ok (.aload_n 0, 1) := by decide +kernel
theorem dX5_portage_75 : decode cX5_portage 75 = .ok (.iconst 3, 1) := by decide +kernel
theorem dX5_portage_76 : decode cX5_portage 76 = .ok (.invokevirtual 68, 3) := by decide +kernel
theorem dX5_portage_79 : decode cX5_portage 79 = .ok (.ireturn, 1) := by decide +kernel
theorem dX5_portage_80 : decode cX5_portage 80 = .ok (.aload_n 0, 1) := by decide +kernel
theorem dX5_portage_81 : decode cX5_portage 81 = .ok (.getfield 18, 3) := by decide +kernel
theorem dX5_portage_84 : decode cX5_portage 84 = .ok (.aload 5, 2) := by decide +kernel
theorem dX5_portage_86 : decode cX5_portage 86 = .ok (.iload_n 3, 1) := by decide +kernel
theorem dX5_portage_87 : decode cX5_portage 87 = .ok (.iload 4, 2) := by decide +kernel
theorem dX5_portage_89 : decode cX5_portage 89 = .ok (.invokevirtual 75, 3) := by decide +kernel
theorem dX5_portage_92 : decode cX5_portage 92 = .ok (.istore 7, 2) := by decide +kernel
theorem dX5_portage_94 : decode cX5_portage 94 = .ok (.iload 7, 2) := by decide +kernel
theorem dX5_portage_96 : decode cX5_portage 96 = .ok (.bipush (-9), 2) := by decide +kernel
theorem dX5_portage_98 : decode cX5_portage 98 = .ok (.if_icmp .eq 9, 3) := by decide +kernel
theorem dX5_portage_101 : decode cX5_portage 101 = .ok (.bipush (-100), 2) := by decide +kernel
theorem dX5_portage_103 : decode cX5_portage 103 = .ok (.iload 7, 2) := by decide +kernel
theorem dX5_portage_105 : decode cX5_portage 105 = .ok (.isub, 1) := by decide +kernel
theorem dX5_portage_106 : decode cX5_portage 106 = .ok (.ireturn, 1) := by decide +kernel
theorem dX5_portage_107 : decode cX5_portage 107 = .ok (.aload_n 0, 1) := by decide +kernel
theorem dX5_portage_108 : decode cX5_portage 108 = .ok (.getfield 12, 3) := by decide +kernel
theorem dX5_portage_111 : decode cX5_portage 111 = .ok (.aload_n 0, 1) := by decide +kernel
theorem dX5_portage_112 : decode cX5_portage 112 = .ok (.getfield 18, 3) := by decide +kernel
theorem dX5_portage_115 : decode cX5_portage 115 = .ok (.invokevirtual 79, 3) := by decide +kernel
theorem dX5_portage_118 : decode cX5_portage 118 = .ok (.aload_n 0, 1) := by decide +kernel
theorem dX5_portage_119 : decode cX5_portage 119 = .ok (.getfield 30, 3) := by decide +kernel
theorem dX5_portage_122 : decode cX5_portage 122 = .ok (.iconst 0, 1) := by decide +kernel
theorem dX5_portage_123 : decode cX5_portage 123 = .ok (.putfield 83, 3) := by decide +kernel
theorem dX5_portage_126 : decode cX5_portage 126 = .ok (.aload_n 0, 1) := by decide +kernel
theorem dX5_portage_127 : decode cX5_portage 127 = .ok (.invokevirtual 86, 3) := by decide +kernel
theorem dX5_portage_130 : decode cX5_portage 130 = .ok (.aload_n 0, 1) := by decide +kernel
theorem dX5_portage_131 : decode cX5_portage 131 = .ok (.getfield 12, 3) := by decide +kernel
theorem dX5_portage_134 : decode cX5_portage 134 = .ok (.getfield 89, 3) := by decide +kernel
theorem dX5_portage_137 : decode cX5_portage 137 = .ok (.ireturn, 1) := by decide +kernel
theorem dX5_ofStage_0 : decode cX5_ofStage 0 = .ok (.aload_n 0, 1) := by decide +kernel
theorem dX5_ofStage_1 : decode cX5_ofStage 1 = .ok (.getfield 12, 3) := by decide +kernel
theorem dX5_ofStage_4 : decode cX5_ofStage 4 = .ok (.iload_n 1, 1) := by decide +kernel
theorem dX5_ofStage_5 : decode cX5_ofStage 5 = .ok (.invokevirtual 92, 3) := by decide +kernel
theorem dX5_ofStage_8 : decode cX5_ofStage 8 = .ok (.ifCond .ne 5, 3) := by decide +kernel
theorem dX5_ofStage_11 : decode cX5_ofStage 11 = .ok (.iconst (-1), 1) := by decide +kernel
theorem dX5_ofStage_12 : decode cX5_ofStage 12 = .ok (.ireturn, 1) := by decide +kernel
theorem dX5_ofStage_13 : decode cX5_ofStage 13 = .ok (.iload_n 2, 1) := by decide +kernel
theorem dX5_ofStage_14 : decode cX5_ofStage 14 = .ok (.tableswitch 64 0 2 #[26, 36, 46], 26) := by decide +kernel
theorem dX5_ofStage_40 : decode cX5_ofStage 40 = .ok (.aload_n 0, 1) := by decide +kernel
theorem dX5_ofStage_41 : decode cX5_ofStage 41 = .ok (.getfield 12, 3) := by decide +kernel
theorem dX5_ofStage_44 : decode cX5_ofStage 44 = .ok (.getfield 95, 3) := by decide +kernel
theorem dX5_ofStage_47 : decode cX5_ofStage 47 = .ok (.iload_n 1, 1) := by decide +kernel
theorem dX5_ofStage_48 : decode cX5_ofStage 48 = .ok (.iaload, 1) := by decide +kernel
theorem dX5_ofStage_49 : decode cX5_ofStage 49 = .ok (.ireturn, 1) := by decide +kernel
theorem dX5_ofStage_50 : decode cX5_ofStage 50 = .ok (.aload_n 0, 1) := by decide +kernel
theorem dX5_ofStage_51 : decode cX5_ofStage 51 = .ok (.getfield 12, 3) := by decide +kernel
theorem dX5_ofStage_54 : decode cX5_ofStage 54 = .ok (.getfield 98, 3) := by decide +kernel
theorem dX5_ofStage_57 : decode cX5_ofStage 57 = .ok (.iload_n 1, 1) := by decide +kernel
theorem dX5_ofStage_58 : decode cX5_ofStage 58 = .ok (.iaload, 1) := by decide +kernel
theorem dX5_ofStage_59 : decode cX5_ofStage 59 = .ok (.ireturn, 1) := by decide +kernel
theorem dX5_ofStage_60 : decode cX5_ofStage 60 = .ok (.aload_n 0, 1) := by decide +kernel
theorem dX5_ofStage_61 : decode cX5_ofStage 61 = .ok (.getfield 12, 3) := by decide +kernel
theorem dX5_ofStage_64 : decode cX5_ofStage 64 = .ok (.getfield 101, 3) := by decide +kernel
theorem dX5_ofStage_67 : decode cX5_ofStage 67 = .ok (.iload_n 1, 1) := by decide +kernel
theorem dX5_ofStage_68 : decode cX5_ofStage 68 = .ok (.baload, 1) := by decide +kernel
theorem dX5_ofStage_69 : decode cX5_ofStage 69 = .ok (.ifCond .eq 7, 3) := by decide +kernel
theorem dX5_ofStage_72 : decode cX5_ofStage 72 = .ok (.iconst 1, 1) := by decide +kernel
theorem dX5_ofStage_73 : decode cX5_ofStage 73 = .ok (.goto 4, 3) := by decide +kernel
theorem dX5_ofStage_76 : decode cX5_ofStage 76 = .ok (.iconst 0, 1) := by decide +kernel
theorem dX5_ofStage_77 : decode cX5_ofStage 77 = .ok (.ireturn, 1) := by decide +kernel
theorem dX5_ofStage_78 : decode cX5_ofStage 78 = .ok (.bipush (-2), 2) := by decide +kernel
theorem dX5_ofStage_80 : decode cX5_ofStage 80 = .ok (.ireturn, 1) := by decide +kernel
theorem dX5_ofThing_0 : decode cX5_ofThing 0 = .ok (.aload_n 0, 1) := by decide +kernel
theorem dX5_ofThing_1 : decode cX5_ofThing 1 = .ok (.getfield 12, 3) := by decide +kernel
theorem dX5_ofThing_4 : decode cX5_ofThing 4 = .ok (.iload_n 1, 1) := by decide +kernel
theorem dX5_ofThing_5 : decode cX5_ofThing 5 = .ok (.invokevirtual 105, 3) := by decide +kernel
theorem dX5_ofThing_8 : decode cX5_ofThing 8 = .ok (.ifCond .ne 5, 3) := by decide +kernel
theorem dX5_ofThing_11 : decode cX5_ofThing 11 = .ok (.iconst (-1), 1) := by decide +kernel
theorem dX5_ofThing_12 : decode cX5_ofThing 12 = .ok (.ireturn, 1) := by decide +kernel
theorem dX5_ofThing_13 : decode cX5_ofThing 13 = .ok (.iload_n 2, 1) := by decide +kernel
theorem dX5_ofThing_14 : decode cX5_ofThing 14 = .ok (.lookupswitch 46 #[(0, 26), (1, 36)], 26) := by decide +kernel
theorem dX5_ofThing_40 : decode cX5_ofThing 40 = .ok (.aload_n 0, 1) := by decide +kernel
theorem dX5_ofThing_41 : decode cX5_ofThing 41 = .ok (.getfield 12, 3) := by decide +kernel
theorem dX5_ofThing_44 : decode cX5_ofThing 44 = .ok (.getfield 108, 3) := by decide +kernel
theorem dX5_ofThing_47 : decode cX5_ofThing 47 = .ok (.iload_n 1, 1) := by decide +kernel
theorem dX5_ofThing_48 : decode cX5_ofThing 48 = .ok (.iaload, 1) := by decide +kernel
theorem dX5_ofThing_49 : decode cX5_ofThing 49 = .ok (.ireturn, 1) := by decide +kernel
theorem dX5_ofThing_50 : decode cX5_ofThing 50 = .ok (.aload_n 0, 1) := by decide +kernel
theorem dX5_ofThing_51 : decode cX5_ofThing 51 = .ok (.getfield 12, 3) := by decide +kernel
theorem dX5_ofThing_54 : decode cX5_ofThing 54 = .ok (.getfield 111, 3) := by decide +kernel
theorem dX5_ofThing_57 : decode cX5_ofThing 57 = .ok (.iload_n 1, 1) := by decide +kernel
theorem dX5_ofThing_58 : decode cX5_ofThing 58 = .ok (.iaload, 1) := by decide +kernel
theorem dX5_ofThing_59 : decode cX5_ofThing 59 = .ok (.ireturn, 1) := by decide +kernel
theorem dX5_ofThing_60 : decode cX5_ofThing 60 = .ok (.bipush (-2), 2) := by decide +kernel
theorem dX5_ofThing_62 : decode cX5_ofThing 62 = .ok (.ireturn, 1) := by decide +kernel
theorem dX5_bears_0 : decode cX5_bears 0 = .ok (.iload_n 1, 1) := by decide +kernel
theorem dX5_bears_1 : decode cX5_bears 1 = .ok (.iconst 1, 1) := by decide +kernel
theorem dX5_bears_2 : decode cX5_bears 2 = .ok (.if_icmp .lt 9, 3) := by decide +kernel
theorem dX5_bears_5 : decode cX5_bears 5 = .ok (.iload_n 1, 1) := by decide +kernel
theorem dX5_bears_6 : decode cX5_bears 6 = .ok (.bipush 36, 2) := by decide +kernel
theorem dX5_bears_8 : decode cX5_bears 8 = .ok (.if_icmp .le 6, 3) := by decide +kernel
theorem dX5_bears_11 : decode cX5_bears 11 = .ok (.bipush (-2), 2) := by decide +kernel
theorem dX5_bears_13 : decode cX5_bears 13 = .ok (.ireturn, 1) := by decide +kernel
theorem dX5_bears_14 : decode cX5_bears 14 = .ok (.aload_n 0, 1) := by decide +kernel
theorem dX5_bears_15 : decode cX5_bears 15 = .ok (.getfield 12, 3) := by decide +kernel
theorem dX5_bears_18 : decode cX5_bears 18 = .ok (.invokevirtual 114, 3) := by decide +kernel
theorem dX5_bears_21 : decode cX5_bears 21 = .ok (.ifCond .ne 6, 3) := by decide +kernel
theorem dX5_bears_24 : decode cX5_bears 24 = .ok (.bipush (-3), 2) := by decide +kernel
theorem dX5_bears_26 : decode cX5_bears 26 = .ok (.ireturn, 1) := by decide +kernel
theorem dX5_bears_27 : decode cX5_bears 27 = .ok (.aload_n 0, 1) := by decide +kernel
theorem dX5_bears_28 : decode cX5_bears 28 = .ok (.getfield 12, 3) := by decide +kernel
theorem dX5_bears_31 : decode cX5_bears 31 = .ok (.getfield 118, 3) := by decide +kernel
theorem dX5_bears_34 : decode cX5_bears 34 = .ok (.istore_n 2, 1) := by decide +kernel
theorem dX5_bears_35 : decode cX5_bears 35 = .ok (.aload_n 0, 1) := by decide +kernel
theorem dX5_bears_36 : decode cX5_bears 36 = .ok (.getfield 12, 3) := by decide +kernel
theorem dX5_bears_39 : decode cX5_bears 39 = .ok (.iload_n 1, 1) := by decide +kernel
theorem dX5_bears_40 : decode cX5_bears 40 = .ok (.putfield 118, 3) := by decide +kernel
theorem dX5_bears_43 : decode cX5_bears 43 = .ok (.aload_n 0, 1) := by decide +kernel
theorem dX5_bears_44 : decode cX5_bears 44 = .ok (.invokevirtual 86, 3) := by decide +kernel
theorem dX5_bears_47 : decode cX5_bears 47 = .ok (.iload_n 2, 1) := by decide +kernel
theorem dX5_bears_48 : decode cX5_bears 48 = .ok (.ireturn, 1) := by decide +kernel
theorem dX5_rain_0 : decode cX5_rain 0 = .ok (.iload_n 1, 1) := by decide +kernel
theorem dX5_rain_1 : decode cX5_rain 1 = .ok (.bipush (-9), 2) := by decide +kernel
theorem dX5_rain_3 : decode cX5_rain 3 = .ok (.if_icmp .eq 16, 3) := by decide +kernel
theorem dX5_rain_6 : decode cX5_rain 6 = .ok (.iload_n 1, 1) := by decide +kernel
theorem dX5_rain_7 : decode cX5_rain 7 = .ok (.ifCond .lt 9, 3) := by decide +kernel
theorem dX5_rain_10 : decode cX5_rain 10 = .ok (.iload_n 1, 1) := by decide +kernel
theorem dX5_rain_11 : decode cX5_rain 11 = .ok (.bipush 99, 2) := by decide +kernel
theorem dX5_rain_13 : decode cX5_rain 13 = .ok (.if_icmp .le 6, 3) := by decide +kernel
theorem dX5_rain_16 : decode cX5_rain 16 = .ok (.bipush (-2), 2) := by decide +kernel
theorem dX5_rain_18 : decode cX5_rain 18 = .ok (.ireturn, 1) := by decide +kernel
theorem dX5_rain_19 : decode cX5_rain 19 = .ok (.aload_n 0, 1) := by decide +kernel
theorem dX5_rain_20 : decode cX5_rain 20 = .ok (.getfield 12, 3) := by decide +kernel
theorem dX5_rain_23 : decode cX5_rain 23 = .ok (.invokevirtual 114, 3) := by decide +kernel
theorem dX5_rain_26 : decode cX5_rain 26 = .ok (.ifCond .ne 6, 3) := by decide +kernel
theorem dX5_rain_29 : decode cX5_rain 29 = .ok (.bipush (-3), 2) := by decide +kernel
theorem dX5_rain_31 : decode cX5_rain 31 = .ok (.ireturn, 1) := by decide +kernel
theorem dX5_rain_32 : decode cX5_rain 32 = .ok (.aload_n 0, 1) := by decide +kernel
theorem dX5_rain_33 : decode cX5_rain 33 = .ok (.getfield 12, 3) := by decide +kernel
theorem dX5_rain_36 : decode cX5_rain 36 = .ok (.getfield 121, 3) := by decide +kernel
theorem dX5_rain_39 : decode cX5_rain 39 = .ok (.istore_n 2, 1) := by decide +kernel
theorem dX5_rain_40 : decode cX5_rain 40 = .ok (.aload_n 0, 1) := by decide +kernel
theorem dX5_rain_41 : decode cX5_rain 41 = .ok (.getfield 12, 3) := by decide +kernel
theorem dX5_rain_44 : decode cX5_rain 44 = .ok (.iload_n 1, 1) := by decide +kernel
theorem dX5_rain_45 : decode cX5_rain 45 = .ok (.putfield 121, 3) := by decide +kernel
theorem dX5_rain_48 : decode cX5_rain 48 = .ok (.aload_n 0, 1) := by decide +kernel
theorem dX5_rain_49 : decode cX5_rain 49 = .ok (.invokevirtual 86, 3) := by decide +kernel
theorem dX5_rain_52 : decode cX5_rain 52 = .ok (.iload_n 2, 1) := by decide +kernel
theorem dX5_rain_53 : decode cX5_rain 53 = .ok (.ireturn, 1) := by decide +kernel
theorem dX5_boards_0 : decode cX5_boards 0 = .ok (.aload_n 0, 1) := by decide +kernel
theorem dX5_boards_1 : decode cX5_boards 1 = .ok (.getfield 12, 3) := by decide +kernel
theorem dX5_boards_4 : decode cX5_boards 4 = .ok (.iload_n 1, 1) := by decide +kernel
theorem dX5_boards_5 : decode cX5_boards 5 = .ok (.invokevirtual 92, 3) := by decide +kernel
theorem dX5_boards_8 : decode cX5_boards 8 = .ok (.ifCond .ne 5, 3) := by decide +kernel
theorem dX5_boards_11 : decode cX5_boards 11 = .ok (.iconst (-1), 1) := by decide +kernel
theorem dX5_boards_12 : decode cX5_boards 12 = .ok (.ireturn, 1) := by decide +kernel
theorem dX5_boards_13 : decode cX5_boards 13 = .ok (.aload_n 0, 1) := by decide +kernel
theorem dX5_boards_14 : decode cX5_boards 14 = .ok (.getfield 12, 3) := by decide +kernel
theorem dX5_boards_17 : decode cX5_boards 17 = .ok (.getfield 101, 3) := by decide +kernel
theorem dX5_boards_20 : decode cX5_boards 20 = .ok (.iload_n 1, 1) := by decide +kernel
theorem dX5_boards_21 : decode cX5_boards 21 = .ok (.baload, 1) := by decide +kernel
theorem dX5_boards_22 : decode cX5_boards 22 = .ok (.iload_n 2, 1) := by decide +kernel
theorem dX5_boards_23 : decode cX5_boards 23 = .ok (.if_icmp .ne 5, 3) := by decide +kernel
theorem dX5_boards_26 : decode cX5_boards 26 = .ok (.iconst 0, 1) := by decide +kernel
theorem dX5_boards_27 : decode cX5_boards 27 = .ok (.ireturn, 1) := by decide +kernel
theorem dX5_boards_28 : decode cX5_boards 28 = .ok (.aload_n 0, 1) := by decide +kernel
theorem dX5_boards_29 : decode cX5_boards 29 = .ok (.getfield 12, 3) := by decide +kernel
theorem dX5_boards_32 : decode cX5_boards 32 = .ok (.getfield 101, 3) := by decide +kernel
theorem dX5_boards_35 : decode cX5_boards 35 = .ok (.iload_n 1, 1) := by decide +kernel
theorem dX5_boards_36 : decode cX5_boards 36 = .ok (.iload_n 2, 1) := by decide +kernel
theorem dX5_boards_37 : decode cX5_boards 37 = .ok (.bastore, 1) := by decide +kernel
theorem dX5_boards_38 : decode cX5_boards 38 = .ok (.aload_n 0, 1) := by decide +kernel
theorem dX5_boards_39 : decode cX5_boards 39 = .ok (.invokevirtual 86, 3) := by decide +kernel
theorem dX5_boards_42 : decode cX5_boards 42 = .ok (.iconst 1, 1) := by decide +kernel
theorem dX5_boards_43 : decode cX5_boards 43 = .ok (.ireturn, 1) := by decide +kernel
theorem dX5_well_0 : decode cX5_well 0 = .ok (.aload_n 0, 1) := by decide +kernel
theorem dX5_well_1 : decode cX5_well 1 = .ok (.getfield 12, 3) := by decide +kernel
theorem dX5_well_4 : decode cX5_well 4 = .ok (.iload_n 1, 1) := by decide +kernel
theorem dX5_well_5 : decode cX5_well 5 = .ok (.invokevirtual 124, 3) := by decide +kernel
theorem dX5_well_8 : decode cX5_well 8 = .ok (.ifCond .ne 6, 3) := by decide +kernel
theorem dX5_well_11 : decode cX5_well 11 = .ok (.bipush (-2), 2) := by decide +kernel
theorem dX5_well_13 : decode cX5_well 13 = .ok (.ireturn, 1) := by decide +kernel
theorem dX5_well_14 : decode cX5_well 14 = .ok (.aload_n 0, 1) := by decide +kernel
theorem dX5_well_15 : decode cX5_well 15 = .ok (.getfield 12, 3) := by decide +kernel
theorem dX5_well_18 : decode cX5_well 18 = .ok (.invokevirtual 114, 3) := by decide +kernel
theorem dX5_well_21 : decode cX5_well 21 = .ok (.ifCond .ne 6, 3) := by decide +kernel
theorem dX5_well_24 : decode cX5_well 24 = .ok (.bipush (-3), 2) := by decide +kernel
theorem dX5_well_26 : decode cX5_well 26 = .ok (.ireturn, 1) := by decide +kernel
theorem dX5_well_27 : decode cX5_well 27 = .ok (.aload_n 0, 1) := by decide +kernel
theorem dX5_well_28 : decode cX5_well 28 = .ok (.getfield 12, 3) := by decide +kernel
theorem dX5_well_31 : decode cX5_well 31 = .ok (.iload_n 1, 1) := by decide +kernel
theorem dX5_well_32 : decode cX5_well 32 = .ok (.invokevirtual 127, 3) := by decide +kernel
theorem dX5_well_35 : decode cX5_well 35 = .ok (.ireturn, 1) := by decide +kernel
theorem dX5_trips_0 : decode cX5_trips 0 = .ok (.aload_n 0, 1) := by decide +kernel
theorem dX5_trips_1 : decode cX5_trips 1 = .ok (.iconst 0, 1) := by decide +kernel
theorem dX5_trips_2 : decode cX5_trips 2 = .ok (.putfield 53, 3) := by decide +kernel
theorem dX5_trips_5 : decode cX5_trips 5 = .ok (.iload 5, 2) := by decide +kernel
theorem dX5_trips_7 : decode cX5_trips 7 = .ok (.ifCond .lt 9, 3) := by decide +kernel
theorem dX5_trips_10 : decode cX5_trips 10 = .ok (.iload 5, 2) := by decide +kernel
theorem dX5_trips_12 : decode cX5_trips 12 = .ok (.iconst 2, 1) := by decide +kernel
theorem dX5_trips_13 : decode cX5_trips 13 = .ok (.if_icmp .le 17, 3) := by decide +kernel
theorem dX5_trips_16 : decode cX5_trips 16 = .ok (.iload 5, 2) := by decide +kernel
theorem dX5_trips_18 : decode cX5_trips 18 = .ok (.bipush 10, 2) := by decide +kernel
theorem dX5_trips_20 : decode cX5_trips 20 = .ok (.if_icmp .lt 14, 3) := by decide +kernel
theorem dX5_trips_23 : decode cX5_trips 23 = .ok (.iload 5, 2) := by decide +kernel
theorem dX5_trips_25 : decode cX5_trips 25 = .ok (.bipush 13, 2) := by decide +kernel
theorem dX5_trips_27 : decode cX5_trips 27 = .ok (.if_icmp .gt 7, 3) := by decide +kernel
theorem dX5_trips_30 : decode cX5_trips 30 = .ok (.iconst 1, 1) := by decide +kernel
theorem dX5_trips_31 : decode cX5_trips 31 = .ok (.goto 4, 3) := by decide +kernel
theorem dX5_trips_34 : decode cX5_trips 34 = .ok (.iconst 0, 1) := by decide +kernel
theorem dX5_trips_35 : decode cX5_trips 35 = .ok (.istore 6, 2) := by decide +kernel
theorem dX5_trips_37 : decode cX5_trips 37 = .ok (.aload_n 0, 1) := by decide +kernel
theorem dX5_trips_38 : decode cX5_trips 38 = .ok (.iload_n 1, 1) := by decide +kernel
theorem dX5_trips_39 : decode cX5_trips 39 = .ok (.iload_n 2, 1) := by decide +kernel
theorem dX5_trips_40 : decode cX5_trips 40 = .ok (.iload_n 3, 1) := by decide +kernel
theorem dX5_trips_41 : decode cX5_trips 41 = .ok (.iload 4, 2) := by decide +kernel
theorem dX5_trips_43 : decode cX5_trips 43 = .ok (.iload 6, 2) := by decide +kernel
theorem dX5_trips_45 : decode cX5_trips 45 = .ok (.invokevirtual 130, 3) := by decide +kernel
theorem dX5_trips_48 : decode cX5_trips 48 = .ok (.istore 7, 2) := by decide +kernel
theorem dX5_trips_50 : decode cX5_trips 50 = .ok (.iload 7, 2) := by decide +kernel
theorem dX5_trips_52 : decode cX5_trips 52 = .ok (.ifCond .eq 6, 3) := by decide +kernel
theorem dX5_trips_55 : decode cX5_trips 55 = .ok (.iload 7, 2) := by decide +kernel
theorem dX5_trips_57 : decode cX5_trips 57 = .ok (.ireturn, 1) := by decide +kernel
theorem dX5_trips_58 : decode cX5_trips 58 = .ok (.aload_n 0, 1) := by decide +kernel
theorem dX5_trips_59 : decode cX5_trips 59 = .ok (.getfield 37, 3) := by decide +kernel
theorem dX5_trips_62 : decode cX5_trips 62 = .ok (.aload_n 0, 1) := by decide +kernel
theorem dX5_trips_63 : decode cX5_trips 63 = .ok (.getfield 12, 3) := by decide +kernel
theorem dX5_trips_66 : decode cX5_trips 66 = .ok (.invokevirtual 134, 3) := by decide +kernel
theorem dX5_trips_69 : decode cX5_trips 69 = .ok (.iload 5, 2) := by decide +kernel
theorem dX5_trips_71 : decode cX5_trips 71 = .ok (.iconst 1, 1) := by decide +kernel
theorem dX5_trips_72 : decode cX5_trips 72 = .ok (.if_icmp .ne 11, 3) := by decide +kernel
theorem dX5_trips_75 : decode cX5_trips 75 = .ok (.aload_n 0, 1) := by decide +kernel
theorem dX5_trips_76 : decode cX5_trips 76 = .ok (.getfield 37, 3) := by decide +kernel
theorem dX5_trips_79 : decode cX5_trips 79 = .ok (.getfield 137, 3) := by decide +kernel
theorem dX5_trips_82 : decode cX5_trips 82 = .ok (.ireturn, 1) := by decide +kernel
theorem dX5_trips_83 : decode cX5_trips 83 = .ok (.aload_n 0, 1) := by decide +kernel
theorem dX5_trips_84 : decode cX5_trips 84 = .ok (.getfield 37, 3) := by decide +kernel
theorem dX5_trips_87 : decode cX5_trips 87 = .ok (.getfield 137, 3) := by decide +kernel
theorem dX5_trips_90 : decode cX5_trips 90 = .ok (.bipush (-9), 2) := by decide +kernel
theorem dX5_trips_92 : decode cX5_trips 92 = .ok (.if_icmp .eq 14, 3) := by decide +kernel
theorem dX5_trips_95 : decode cX5_trips 95 = .ok (.bipush (-100), 2) := by decide +kernel
theorem dX5_trips_97 : decode cX5_trips 97 = .ok (.aload_n 0, 1) := by decide +kernel
theorem dX5_trips_98 : decode cX5_trips 98 = .ok (.getfield 37, 3) := by decide +kernel
theorem dX5_trips_101 : decode cX5_trips 101 = .ok (.getfield 137, 3) := by decide +kernel
theorem dX5_trips_104 : decode cX5_trips 104 = .ok (.isub, 1) := by decide +kernel
theorem dX5_trips_105 : decode cX5_trips 105 = .ok (.ireturn, 1) := by decide +kernel
theorem dX5_trips_106 : decode cX5_trips 106 = .ok (.iload 5, 2) := by decide +kernel
theorem dX5_trips_108 : decode cX5_trips 108 = .ok (.ifCond .ne 11, 3) := by decide +kernel
theorem dX5_trips_111 : decode cX5_trips 111 = .ok (.aload_n 0, 1) := by decide +kernel
theorem dX5_trips_112 : decode cX5_trips 112 = .ok (.getfield 37, 3) := by decide +kernel
theorem dX5_trips_115 : decode cX5_trips 115 = .ok (.invokevirtual 140, 3) := by decide +kernel
theorem dX5_trips_118 : decode cX5_trips 118 = .ok (.ireturn, 1) := by decide +kernel
theorem dX5_trips_119 : decode cX5_trips 119 = .ok (.iload 5, 2) := by decide +kernel
theorem dX5_trips_121 : decode cX5_trips 121 = .ok (.iconst 2, 1) := by decide +kernel
theorem dX5_trips_122 : decode cX5_trips 122 = .ok (.if_icmp .ne 11, 3) := by decide +kernel
theorem dX5_trips_125 : decode cX5_trips 125 = .ok (.aload_n 0, 1) := by decide +kernel
theorem dX5_trips_126 : decode cX5_trips 126 = .ok (.getfield 37, 3) := by decide +kernel
theorem dX5_trips_129 : decode cX5_trips 129 = .ok (.getfield 144, 3) := by decide +kernel
theorem dX5_trips_132 : decode cX5_trips 132 = .ok (.ireturn, 1) := by decide +kernel
theorem dX5_trips_133 : decode cX5_trips 133 = .ok (.iload 5, 2) := by decide +kernel
theorem dX5_trips_135 : decode cX5_trips 135 = .ok (.bipush 10, 2) := by decide +kernel
theorem dX5_trips_137 : decode cX5_trips 137 = .ok (.isub, 1) := by decide +kernel
theorem dX5_trips_138 : decode cX5_trips 138 = .ok (.istore 8, 2) := by decide +kernel
theorem dX5_trips_140 : decode cX5_trips 140 = .ok (.aload_n 0, 1) := by decide +kernel
theorem dX5_trips_141 : decode cX5_trips 141 = .ok (.getfield 12, 3) := by decide +kernel
theorem dX5_trips_144 : decode cX5_trips 144 = .ok (.iload 8, 2) := by decide +kernel
theorem dX5_trips_146 : decode cX5_trips 146 = .ok (.invokevirtual 147, 3) := by decide +kernel
theorem dX5_trips_149 : decode cX5_trips 149 = .ok (.ifCond .eq 15, 3) := by decide +kernel
theorem dX5_trips_152 : decode cX5_trips 152 = .ok (.aload_n 0, 1) := by decide +kernel
theorem dX5_trips_153 : decode cX5_trips 153 = .ok (.getfield 37, 3) := by decide +kernel
theorem dX5_trips_156 : decode cX5_trips 156 = .ok (.iload 8, 2) := by decide +kernel
theorem dX5_trips_158 : decode cX5_trips 158 = .ok (.invokevirtual 150, 3) := by decide +kernel
theorem dX5_trips_161 : decode cX5_trips 161 = .ok (.goto 5, 3) := by decide +kernel
theorem dX5_trips_164 : decode cX5_trips 164 = .ok (.bipush (-9), 2) := by decide +kernel
theorem dX5_trips_166 : decode cX5_trips 166 = .ok (.ireturn, 1) := by decide +kernel
theorem dX5_at_0 : decode cX5_at 0 = .ok (.aload_n 0, 1) := by decide +kernel
theorem dX5_at_1 : decode cX5_at 1 = .ok (.iconst 0, 1) := by decide +kernel
theorem dX5_at_2 : decode cX5_at 2 = .ok (.putfield 53, 3) := by decide +kernel
theorem dX5_at_5 : decode cX5_at 5 = .ok (.aload_n 0, 1) := by decide +kernel
theorem dX5_at_6 : decode cX5_at 6 = .ok (.getfield 12, 3) := by decide +kernel
theorem dX5_at_9 : decode cX5_at 9 = .ok (.iload_n 1, 1) := by decide +kernel
theorem dX5_at_10 : decode cX5_at 10 = .ok (.invokevirtual 105, 3) := by decide +kernel
theorem dX5_at_13 : decode cX5_at 13 = .ok (.ifCond .ne 5, 3) := by decide +kernel
theorem dX5_at_16 : decode cX5_at 16 = .ok (.iconst (-1), 1) := by decide +kernel
theorem dX5_at_17 : decode cX5_at 17 = .ok (.ireturn, 1) := by decide +kernel
theorem dX5_at_18 : decode cX5_at 18 = .ok (.iload_n 2, 1) := by decide +kernel
theorem dX5_at_19 : decode cX5_at 19 = .ok (.ifCond .lt 10, 3) := by decide +kernel
theorem dX5_at_22 : decode cX5_at 22 = .ok (.iload_n 2, 1) := by decide +kernel
theorem dX5_at_23 : decode cX5_at 23 = .ok (.sipush 999, 3) := by decide +kernel
theorem dX5_at_26 : decode cX5_at 26 = .ok (.if_icmp .le 6, 3) := by decide +kernel
theorem dX5_at_29 : decode cX5_at 29 = .ok (.bipush (-2), 2) := by decide +kernel
theorem dX5_at_31 : decode cX5_at 31 = .ok (.ireturn, 1) := by decide +kernel
theorem dX5_at_32 : decode cX5_at 32 = .ok (.aload_n 0, 1) := by decide +kernel
theorem dX5_at_33 : decode cX5_at 33 = .ok (.iload_n 3, 1) := by decide +kernel
theorem dX5_at_34 : decode cX5_at 34 = .ok (.iload 4, 2) := by decide +kernel
theorem dX5_at_36 : decode cX5_at 36 = .ok (.iload 5, 2) := by decide +kernel
theorem dX5_at_38 : decode cX5_at 38 = .ok (.iload 6, 2) := by decide +kernel
theorem dX5_at_40 : decode cX5_at 40 = .ok (.iconst 1, 1) := by decide +kernel
theorem dX5_at_41 : decode cX5_at 41 = .ok (.invokevirtual 130, 3) := by decide +kernel
theorem dX5_at_44 : decode cX5_at 44 = .ok (.istore 7, 2) := by decide +kernel
theorem dX5_at_46 : decode cX5_at 46 = .ok (.iload 7, 2) := by decide +kernel
theorem dX5_at_48 : decode cX5_at 48 = .ok (.ifCond .eq 6, 3) := by decide +kernel
theorem dX5_at_51 : decode cX5_at 51 = .ok (.iload 7, 2) := by decide +kernel
theorem dX5_at_53 : decode cX5_at 53 = .ok (.ireturn, 1) := by decide +kernel
theorem dX5_at_54 : decode cX5_at 54 = .ok (.aload_n 0, 1) := by decide +kernel
theorem dX5_at_55 : decode cX5_at 55 = .ok (.getfield 37, 3) := by decide +kernel
theorem dX5_at_58 : decode cX5_at 58 = .ok (.aload_n 0, 1) := by decide +kernel
theorem dX5_at_59 : decode cX5_at 59 = .ok (.getfield 12, 3) := by decide +kernel
theorem dX5_at_62 : decode cX5_at 62 = .ok (.invokevirtual 134, 3) := by decide +kernel
theorem dX5_at_65 : decode cX5_at 65 = .ok (.aload_n 0, 1) := by decide +kernel
theorem dX5_at_66 : decode cX5_at 66 = .ok (.getfield 37, 3) := by decide +kernel
theorem dX5_at_69 : decode cX5_at 69 = .ok (.getfield 137, 3) := by decide +kernel
theorem dX5_at_72 : decode cX5_at 72 = .ok (.bipush (-9), 2) := by decide +kernel
theorem dX5_at_74 : decode cX5_at 74 = .ok (.if_icmp .ne 15, 3) := by decide +kernel
theorem dX5_at_77 : decode cX5_at 77 = .ok (.aload_n 0, 1) := by decide +kernel
theorem dX5_at_78 : decode cX5_at 78 = .ok (.getfield 37, 3) := by decide +kernel
theorem dX5_at_81 : decode cX5_at 81 = .ok (.iload_n 1, 1) := by decide +kernel
theorem dX5_at_82 : decode cX5_at 82 = .ok (.iload_n 2, 1) := by decide +kernel
theorem dX5_at_83 : decode cX5_at 83 = .ok (.invokevirtual 153, 3) := by decide +kernel
theorem dX5_at_86 : decode cX5_at 86 = .ok (.goto 13, 3) := by decide +kernel
theorem dX5_at_89 : decode cX5_at 89 = .ok (.bipush (-100), 2) := by decide +kernel
theorem dX5_at_91 : decode cX5_at 91 = .ok (.aload_n 0, 1) := by decide +kernel
theorem dX5_at_92 : decode cX5_at 92 = .ok (.getfield 37, 3) := by decide +kernel
theorem dX5_at_95 : decode cX5_at 95 = .ok (.getfield 137, 3) := by decide +kernel
theorem dX5_at_98 : decode cX5_at 98 = .ok (.isub, 1) := by decide +kernel
theorem dX5_at_99 : decode cX5_at 99 = .ok (.ireturn, 1) := by decide +kernel
theorem dX5_dry_0 : decode cX5_dry 0 = .ok (.aload_n 0, 1) := by decide +kernel
theorem dX5_dry_1 : decode cX5_dry 1 = .ok (.iconst 0, 1) := by decide +kernel
theorem dX5_dry_2 : decode cX5_dry 2 = .ok (.putfield 53, 3) := by decide +kernel
theorem dX5_dry_5 : decode cX5_dry 5 = .ok (.aload_n 0, 1) := by decide +kernel
theorem dX5_dry_6 : decode cX5_dry 6 = .ok (.iload_n 1, 1) := by decide +kernel
theorem dX5_dry_7 : decode cX5_dry 7 = .ok (.iload_n 2, 1) := by decide +kernel
theorem dX5_dry_8 : decode cX5_dry 8 = .ok (.iload_n 3, 1) := by decide +kernel
theorem dX5_dry_9 : decode cX5_dry 9 = .ok (.iload 4, 2) := by decide +kernel
theorem dX5_dry_11 : decode cX5_dry 11 = .ok (.iload 5, 2) := by decide +kernel
theorem dX5_dry_13 : decode cX5_dry 13 = .ok (.ifCond .eq 9, 3) := by decide +kernel
theorem dX5_dry_16 : decode cX5_dry 16 = .ok (.iload 5, 2) := by decide +kernel
theorem dX5_dry_18 : decode cX5_dry 18 = .ok (.iconst 1, 1) := by decide +kernel
theorem dX5_dry_19 : decode cX5_dry 19 = .ok (.if_icmp .ne 7, 3) := by decide +kernel
theorem dX5_dry_22 : decode cX5_dry 22 = .ok (.iconst 1, 1) := by decide +kernel
theorem dX5_dry_23 : decode cX5_dry 23 = .ok (.goto 4, 3) := by decide +kernel
theorem dX5_dry_26 : decode cX5_dry 26 = .ok (.iconst 0, 1) := by decide +kernel
theorem dX5_dry_27 : decode cX5_dry 27 = .ok (.invokevirtual 130, 3) := by decide +kernel
theorem dX5_dry_30 : decode cX5_dry 30 = .ok (.ifCond .eq 7, 3) := by decide +kernel
theorem dX5_dry_33 : decode cX5_dry 33 = .ok (.ldc2_w 157, 3) := by decide +kernel
theorem dX5_dry_36 : decode cX5_dry 36 = .ok (.lreturn, 1) := by decide +kernel
theorem dX5_dry_37 : decode cX5_dry 37 = .ok (.aload_n 0, 1) := by decide +kernel
theorem dX5_dry_38 : decode cX5_dry 38 = .ok (.getfield 37, 3) := by decide +kernel
theorem dX5_dry_41 : decode cX5_dry 41 = .ok (.aload_n 0, 1) := by decide +kernel
theorem dX5_dry_42 : decode cX5_dry 42 = .ok (.getfield 12, 3) := by decide +kernel
theorem dX5_dry_45 : decode cX5_dry 45 = .ok (.invokevirtual 134, 3) := by decide +kernel
theorem dX5_dry_48 : decode cX5_dry 48 = .ok (.aload_n 0, 1) := by decide +kernel
theorem dX5_dry_49 : decode cX5_dry 49 = .ok (.getfield 37, 3) := by decide +kernel
theorem dX5_dry_52 : decode cX5_dry 52 = .ok (.getfield 137, 3) := by decide +kernel
theorem dX5_dry_55 : decode cX5_dry 55 = .ok (.bipush (-9), 2) := by decide +kernel
theorem dX5_dry_57 : decode cX5_dry 57 = .ok (.if_icmp .eq 7, 3) := by decide +kernel
theorem dX5_dry_60 : decode cX5_dry 60 = .ok (.ldc2_w 157, 3) := by decide +kernel
theorem dX5_dry_63 : decode cX5_dry 63 = .ok (.lreturn, 1) := by decide +kernel
theorem dX5_dry_64 : decode cX5_dry 64 = .ok (.iload 5, 2) := by decide +kernel
theorem dX5_dry_66 : decode cX5_dry 66 = .ok (.ifCond .ne 13, 3) := by decide +kernel
theorem dX5_dry_69 : decode cX5_dry 69 = .ok (.aload_n 0, 1) := by decide +kernel
theorem dX5_dry_70 : decode cX5_dry 70 = .ok (.getfield 37, 3) := by decide +kernel
theorem dX5_dry_73 : decode cX5_dry 73 = .ok (.getfield 159, 3) := by decide +kernel
theorem dX5_dry_76 : decode cX5_dry 76 = .ok (.goto 10, 3) := by decide +kernel
theorem dX5_dry_79 : decode cX5_dry 79 = .ok (.aload_n 0, 1) := by decide +kernel
theorem dX5_dry_80 : decode cX5_dry 80 = .ok (.getfield 37, 3) := by decide +kernel
theorem dX5_dry_83 : decode cX5_dry 83 = .ok (.getfield 163, 3) := by decide +kernel
theorem dX5_dry_86 : decode cX5_dry 86 = .ok (.lreturn, 1) := by decide +kernel
theorem dX5_takeTrips_0 : decode cX5_takeTrips 0 = .ok (.iload_n 1, 1) := by decide +kernel
theorem dX5_takeTrips_1 : decode cX5_takeTrips 1 = .ok (.invokestatic 57, 3) := by decide +kernel
theorem dX5_takeTrips_4 : decode cX5_takeTrips 4 = .ok (.ifCond .ne 5, 3) := by decide +kernel
theorem dX5_takeTrips_7 : decode cX5_takeTrips 7 = .ok (.iconst (-1), 1) := by decide +kernel
theorem dX5_takeTrips_8 : decode cX5_takeTrips 8 = .ok (.ireturn, 1) := by decide +kernel
theorem dX5_takeTrips_9 : decode cX5_takeTrips 9 = .ok (.iload_n 2, 1) := by decide +kernel
theorem dX5_takeTrips_10 : decode cX5_takeTrips 10 = .ok (.invokestatic 61, 3) := by decide +kernel
theorem dX5_takeTrips_13 : decode cX5_takeTrips 13 = .ok (.ifCond .eq 20, 3) := by decide +kernel
theorem dX5_takeTrips_16 : decode cX5_takeTrips 16 = .ok (.iload 4, 2) := by decide +kernel
theorem dX5_takeTrips_18 : decode cX5_takeTrips 18 = .ok (.ifCond .lt 15, 3) := by decide +kernel
theorem dX5_takeTrips_21 : decode cX5_takeTrips 21 = .ok (.iload 4, 2) := by decide +kernel
theorem dX5_takeTrips_23 : decode cX5_takeTrips 23 = .ok (.bipush 18, 2) := by decide +kernel
theorem dX5_takeTrips_25 : decode cX5_takeTrips 25 = .ok (.if_icmp .gt 8, 3) := by decide +kernel
theorem dX5_takeTrips_28 : decode cX5_takeTrips 28 = .ok (.iload 5, 2) := by decide +kernel
theorem dX5_takeTrips_30 : decode cX5_takeTrips 30 = .ok (.ifCond .ne 6, 3) := by decide +kernel
theorem dX5_takeTrips_33 : decode cX5_takeTrips 33 = .ok (.bipush (-2), 2) := by decide +kernel
theorem dX5_takeTrips_35 : decode cX5_takeTrips 35 = .ok (.ireturn, 1) := by decide +kernel
theorem dX5_takeTrips_36 : decode cX5_takeTrips 36 = .ok (.aload_n 0, 1) := by decide +kernel
theorem dX5_takeTrips_37 : decode cX5_takeTrips 37 = .ok (.getfield 23, 3) := by decide +kernel
theorem dX5_takeTrips_40 : decode cX5_takeTrips 40 = .ok (.iload_n 1, 1) := by decide +kernel
theorem dX5_takeTrips_41 : decode cX5_takeTrips 41 = .ok (.aaload, 1) := by decide +kernel
theorem dX5_takeTrips_42 : decode cX5_takeTrips 42 = .ok (.astore 6, 2) := by decide +kernel
theorem dX5_takeTrips_44 : decode cX5_takeTrips 44 = .ok (.aload 6, 2) := by decide +kernel
theorem dX5_takeTrips_46 : decode cX5_takeTrips 46 = .ok (.iload_n 2, 1) := by decide +kernel
theorem dX5_takeTrips_47 : decode cX5_takeTrips 47 = .ok (.invokevirtual 64, 3) := by decide +kernel
theorem dX5_takeTrips_50 : decode cX5_takeTrips 50 = .ok (.istore 7, 2) := by decide +kernel
theorem dX5_takeTrips_52 : decode cX5_takeTrips 52 = .ok (.iload 7, 2) := by decide +kernel
theorem dX5_takeTrips_54 : decode cX5_takeTrips 54 = .ok (.ifCond .eq 10, 3) := by decide +kernel
theorem dX5_takeTrips_57 : decode cX5_takeTrips 57 = .ok (.aload_n 0, 1) := by decide +kernel
theorem dX5_takeTrips_58 : decode cX5_takeTrips 58 = .ok (.iload 7, 2) := by decide +kernel
theorem dX5_takeTrips_60 : decode cX5_takeTrips 60 = .ok (.invokevirtual 68, 3) := by decide +kernel
theorem dX5_takeTrips_63 : decode cX5_takeTrips 63 = .ok (.ireturn, 1) := by decide +kernel
theorem dX5_takeTrips_64 : decode cX5_takeTrips 64 = .ok (.aload 6, 2) := by decide +kernel
theorem dX5_takeTrips_66 : decode cX5_takeTrips 66 = .ok (.iload_n 3, 1) := by decide +kernel
theorem dX5_takeTrips_67 : decode cX5_takeTrips 67 = .ok (.iconst 2, 1) := by decide +kernel
theorem dX5_takeTrips_68 : decode cX5_takeTrips 68 = .ok (.iload 4, 2) := by decide +kernel
theorem dX5_takeTrips_70 : decode cX5_takeTrips 70 = .ok (.imul, 1) := by decide +kernel
theorem dX5_takeTrips_71 : decode cX5_takeTrips 71 = .ok (.invokevirtual 71, 3) := by decide +kernel
theorem dX5_takeTrips_74 : decode cX5_takeTrips 74 = .ok (.ifCond .ne 9, 3) := by decide +kernel
theorem dX5_takeTrips_77 : decode cX5_takeTrips 77 = .ok (.aload_n 0, 1) := by decide +kernel
theorem dX5_takeTrips_78 : decode cX5_takeTrips 78 = .ok (.iconst 3, 1) := by decide +kernel
theorem dX5_takeTrips_79 : decode cX5_takeTrips 79 = .ok (.invokevirtual 68, 3) := by decide +kernel
theorem dX5_takeTrips_82 : decode cX5_takeTrips 82 = .ok (.ireturn, 1) := by decide +kernel
theorem dX5_takeTrips_83 : decode cX5_takeTrips 83 = .ok (.aload_n 0, 1) := by decide +kernel
theorem dX5_takeTrips_84 : decode cX5_takeTrips 84 = .ok (.getfield 12, 3) := by decide +kernel
theorem dX5_takeTrips_87 : decode cX5_takeTrips 87 = .ok (.invokevirtual 114, 3) := by decide +kernel
theorem dX5_takeTrips_90 : decode cX5_takeTrips 90 = .ok (.ifCond .ne 6, 3) := by decide +kernel
theorem dX5_takeTrips_93 : decode cX5_takeTrips 93 = .ok (.bipush (-3), 2) := by decide +kernel
theorem dX5_takeTrips_95 : decode cX5_takeTrips 95 = .ok (.ireturn, 1) := by decide +kernel
theorem dX5_takeTrips_96 : decode cX5_takeTrips 96 = .ok (.aload_n 0, 1) := by decide +kernel
theorem dX5_takeTrips_97 : decode cX5_takeTrips 97 = .ok (.getfield 37, 3) := by decide +kernel
theorem dX5_takeTrips_100 : decode cX5_takeTrips 100 = .ok (.iconst 0, 1) := by decide +kernel
theorem dX5_takeTrips_101 : decode cX5_takeTrips 101 = .ok (.putfield 166, 3) := by decide +kernel
theorem dX5_takeTrips_104 : decode cX5_takeTrips 104 = .ok (.iconst 0, 1) := by decide +kernel
theorem dX5_takeTrips_105 : decode cX5_takeTrips 105 = .ok (.istore 8, 2) := by decide +kernel
theorem dX5_takeTrips_107 : decode cX5_takeTrips 107 = .ok (.iload 8, 2) := by decide +kernel
theorem dX5_takeTrips_109 : decode cX5_takeTrips 109 = .ok (.iload 4, 2) := by decide +kernel
theorem dX5_takeTrips_111 : decode cX5_takeTrips 111 = .ok (.if_icmp .ge 79, 3) := by decide +kernel
theorem dX5_takeTrips_114 : decode cX5_takeTrips 114 = .ok (.aload 6, 2) := by decide +kernel
theorem dX5_takeTrips_116 : decode cX5_takeTrips 116 = .ok (.getfield 167, 3) := by decide +kernel
theorem dX5_takeTrips_119 : decode cX5_takeTrips 119 = .ok (.iload_n 3, 1) := by decide +kernel
theorem dX5_takeTrips_120 : decode cX5_takeTrips 120 = .ok (.iconst 2, 1) := by decide +kernel
theorem dX5_takeTrips_121 : decode cX5_takeTrips 121 = .ok (.iload 8, 2) := by decide +kernel
theorem dX5_takeTrips_123 : decode cX5_takeTrips 123 = .ok (.imul, 1) := by decide +kernel
theorem dX5_takeTrips_124 : decode cX5_takeTrips 124 = .ok (.iadd, 1) := by decide +kernel
theorem dX5_takeTrips_125 : decode cX5_takeTrips 125 = .ok (.iaload, 1) := by decide +kernel
theorem dX5_takeTrips_126 : decode cX5_takeTrips 126 = .ok (.istore 9, 2) := by decide +kernel
theorem dX5_takeTrips_128 : decode cX5_takeTrips 128 = .ok (.aload 6, 2) := by decide +kernel
theorem dX5_takeTrips_130 : decode cX5_takeTrips 130 = .ok (.getfield 167, 3) := by decide +kernel
theorem dX5_takeTrips_133 : decode cX5_takeTrips 133 = .ok (.iload_n 3, 1) := by decide +kernel
theorem dX5_takeTrips_134 : decode cX5_takeTrips 134 = .ok (.iconst 2, 1) := by decide +kernel
theorem dX5_takeTrips_135 : decode cX5_takeTrips 135 = .ok (.iload 8, 2) := by decide +kernel
theorem dX5_takeTrips_137 : decode cX5_takeTrips 137 = .ok (.imul, 1) := by decide +kernel
theorem dX5_takeTrips_138 : decode cX5_takeTrips 138 = .ok (.iadd, 1) := by decide +kernel
theorem dX5_takeTrips_139 : decode cX5_takeTrips 139 = .ok (.iconst 1, 1) := by decide +kernel
theorem dX5_takeTrips_140 : decode cX5_takeTrips 140 = .ok (.iadd, 1) := by decide +kernel
theorem dX5_takeTrips_141 : decode cX5_takeTrips 141 = .ok (.iaload, 1) := by decide +kernel
theorem dX5_takeTrips_142 : decode cX5_takeTrips 142 = .ok (.istore 10, 2) := by decide +kernel
theorem dX5_takeTrips_144 : decode cX5_takeTrips 144 = .ok (.aload_n 0, 1) := by decide +kernel
theorem dX5_takeTrips_145 : decode cX5_takeTrips 145 = .ok (.getfield 12, 3) := by decide +kernel
theorem dX5_takeTrips_148 : decode cX5_takeTrips 148 = .ok (.iload 9, 2) := by decide +kernel
theorem dX5_takeTrips_150 : decode cX5_takeTrips 150 = .ok (.invokevirtual 147, 3) := by decide +kernel
theorem dX5_takeTrips_153 : decode cX5_takeTrips 153 = .ok (.ifCond .ne 5, 3) := by decide +kernel
theorem dX5_takeTrips_156 : decode cX5_takeTrips 156 = .ok (.iconst (-1), 1) := by decide +kernel
theorem dX5_takeTrips_157 : decode cX5_takeTrips 157 = .ok (.ireturn, 1) := by decide +kernel
theorem dX5_takeTrips_158 : decode cX5_takeTrips 158 = .ok (.aload_n 0, 1) := by decide +kernel
theorem dX5_takeTrips_159 : decode cX5_takeTrips 159 = .ok (.getfield 12, 3) := by decide +kernel
theorem dX5_takeTrips_162 : decode cX5_takeTrips 162 = .ok (.iload 10, 2) := by decide +kernel
theorem dX5_takeTrips_164 : decode cX5_takeTrips 164 = .ok (.invokevirtual 124, 3) := by decide +kernel
theorem dX5_takeTrips_167 : decode cX5_takeTrips 167 = .ok (.ifCond .ne 6, 3) := by decide +kernel
theorem dX5_takeTrips_170 : decode cX5_takeTrips 170 = .ok (.bipush (-2), 2) := by decide +kernel
theorem dX5_takeTrips_172 : decode cX5_takeTrips 172 = .ok (.ireturn, 1) := by decide +kernel
theorem dX5_takeTrips_173 : decode cX5_takeTrips 173 = .ok (.aload_n 0, 1) := by decide +kernel
theorem dX5_takeTrips_174 : decode cX5_takeTrips 174 = .ok (.getfield 37, 3) := by decide +kernel
theorem dX5_takeTrips_177 : decode cX5_takeTrips 177 = .ok (.iload 9, 2) := by decide +kernel
theorem dX5_takeTrips_179 : decode cX5_takeTrips 179 = .ok (.iload 10, 2) := by decide +kernel
theorem dX5_takeTrips_181 : decode cX5_takeTrips 181 = .ok (.invokevirtual 170, 3) := by decide +kernel
theorem dX5_takeTrips_184 : decode cX5_takeTrips 184 = .ok (.iinc 8 1, 3) := by decide +kernel
theorem dX5_takeTrips_187 : decode cX5_takeTrips 187 = .ok (.goto (-80), 3) := by decide +kernel
theorem dX5_takeTrips_190 : decode cX5_takeTrips 190 = .ok (.iconst 0, 1) := by decide +kernel
theorem dX5_takeTrips_191 : decode cX5_takeTrips 191 = .ok (.ireturn, 1) := by decide +kernel
theorem dX5_soonest_0 : decode cX5_soonest 0 = .ok (.aload_n 0, 1) := by decide +kernel
theorem dX5_soonest_1 : decode cX5_soonest 1 = .ok (.getfield 12, 3) := by decide +kernel
theorem dX5_soonest_4 : decode cX5_soonest 4 = .ok (.invokevirtual 114, 3) := by decide +kernel
theorem dX5_soonest_7 : decode cX5_soonest 7 = .ok (.ifCond .ne 6, 3) := by decide +kernel
theorem dX5_soonest_10 : decode cX5_soonest 10 = .ok (.bipush (-3), 2) := by decide +kernel
theorem dX5_soonest_12 : decode cX5_soonest 12 = .ok (.ireturn, 1) := by decide +kernel
theorem dX5_soonest_13 : decode cX5_soonest 13 = .ok (.aload_n 0, 1) := by decide +kernel
theorem dX5_soonest_14 : decode cX5_soonest 14 = .ok (.invokevirtual 174, 3) := by decide +kernel
theorem dX5_soonest_17 : decode cX5_soonest 17 = .ok (.aload_n 0, 1) := by decide +kernel
theorem dX5_soonest_18 : decode cX5_soonest 18 = .ok (.getfield 177, 3) := by decide +kernel
theorem dX5_soonest_21 : decode cX5_soonest 21 = .ok (.ireturn, 1) := by decide +kernel
theorem dX5_trip_0 : decode cX5_trip 0 = .ok (.iload_n 1, 1) := by decide +kernel
theorem dX5_trip_1 : decode cX5_trip 1 = .ok (.ifCond .ge 5, 3) := by decide +kernel
theorem dX5_trip_4 : decode cX5_trip 4 = .ok (.iconst (-1), 1) := by decide +kernel
theorem dX5_trip_5 : decode cX5_trip 5 = .ok (.ireturn, 1) := by decide +kernel
theorem dX5_trip_6 : decode cX5_trip 6 = .ok (.iload_n 2, 1) := by decide +kernel
theorem dX5_trip_7 : decode cX5_trip 7 = .ok (.ifCond .lt 8, 3) := by decide +kernel
theorem dX5_trip_10 : decode cX5_trip 10 = .ok (.iload_n 2, 1) := by decide +kernel
theorem dX5_trip_11 : decode cX5_trip 11 = .ok (.iconst 1, 1) := by decide +kernel
theorem dX5_trip_12 : decode cX5_trip 12 = .ok (.if_icmp .le 6, 3) := by decide +kernel
theorem dX5_trip_15 : decode cX5_trip 15 = .ok (.bipush (-2), 2) := by decide +kernel
theorem dX5_trip_17 : decode cX5_trip 17 = .ok (.ireturn, 1) := by decide +kernel
theorem dX5_trip_18 : decode cX5_trip 18 = .ok (.aload_n 0, 1) := by decide +kernel
theorem dX5_trip_19 : decode cX5_trip 19 = .ok (.getfield 12, 3) := by decide +kernel
theorem dX5_trip_22 : decode cX5_trip 22 = .ok (.invokevirtual 114, 3) := by decide +kernel
theorem dX5_trip_25 : decode cX5_trip 25 = .ok (.ifCond .ne 6, 3) := by decide +kernel
theorem dX5_trip_28 : decode cX5_trip 28 = .ok (.bipush (-3), 2) := by decide +kernel
theorem dX5_trip_30 : decode cX5_trip 30 = .ok (.ireturn, 1) := by decide +kernel
theorem dX5_trip_31 : decode cX5_trip 31 = .ok (.aload_n 0, 1) := by decide +kernel
theorem dX5_trip_32 : decode cX5_trip 32 = .ok (.invokevirtual 174, 3) := by decide +kernel
theorem dX5_trip_35 : decode cX5_trip 35 = .ok (.iload_n 1, 1) := by decide +kernel
theorem dX5_trip_36 : decode cX5_trip 36 = .ok (.aload_n 0, 1) := by decide +kernel
theorem dX5_trip_37 : decode cX5_trip 37 = .ok (.getfield 180, 3) := by decide +kernel
theorem dX5_trip_40 : decode cX5_trip 40 = .ok (.if_icmp .lt 6, 3) := by decide +kernel
theorem dX5_trip_43 : decode cX5_trip 43 = .ok (.bipush (-9), 2) := by decide +kernel
theorem dX5_trip_45 : decode cX5_trip 45 = .ok (.ireturn, 1) := by decide +kernel
theorem dX5_trip_46 : decode cX5_trip 46 = .ok (.iload_n 2, 1) := by decide +kernel
theorem dX5_trip_47 : decode cX5_trip 47 = .ok (.ifCond .ne 15, 3) := by decide +kernel
theorem dX5_trip_50 : decode cX5_trip 50 = .ok (.aload_n 0, 1) := by decide +kernel
theorem dX5_trip_51 : decode cX5_trip 51 = .ok (.getfield 48, 3) := by decide +kernel
theorem dX5_trip_54 : decode cX5_trip 54 = .ok (.iload_n 1, 1) := by decide +kernel
theorem dX5_trip_55 : decode cX5_trip 55 = .ok (.iaload, 1) := by decide +kernel
theorem dX5_trip_56 : decode cX5_trip 56 = .ok (.bipush 16, 2) := by decide +kernel
theorem dX5_trip_58 : decode cX5_trip 58 = .ok (.idiv, 1) := by decide +kernel
theorem dX5_trip_59 : decode cX5_trip 59 = .ok (.goto 12, 3) := by decide +kernel
theorem dX5_trip_62 : decode cX5_trip 62 = .ok (.aload_n 0, 1) := by decide +kernel
theorem dX5_trip_63 : decode cX5_trip 63 = .ok (.getfield 48, 3) := by decide +kernel
theorem dX5_trip_66 : decode cX5_trip 66 = .ok (.iload_n 1, 1) := by decide +kernel
theorem dX5_trip_67 : decode cX5_trip 67 = .ok (.iaload, 1) := by decide +kernel
theorem dX5_trip_68 : decode cX5_trip 68 = .ok (.bipush 16, 2) := by decide +kernel
theorem dX5_trip_70 : decode cX5_trip 70 = .ok (.irem, 1) := by decide +kernel
theorem dX5_trip_71 : decode cX5_trip 71 = .ok (.ireturn, 1) := by decide +kernel
theorem dX5_fewest_0 : decode cX5_fewest 0 = .ok (.aload_n 0, 1) := by decide +kernel
theorem dX5_fewest_1 : decode cX5_fewest 1 = .ok (.getfield 12, 3) := by decide +kernel
theorem dX5_fewest_4 : decode cX5_fewest 4 = .ok (.invokevirtual 114, 3) := by decide +kernel
theorem dX5_fewest_7 : decode cX5_fewest 7 = .ok (.ifCond .ne 6, 3) := by decide +kernel
theorem dX5_fewest_10 : decode cX5_fewest 10 = .ok (.bipush (-3), 2) := by decide +kernel
theorem dX5_fewest_12 : decode cX5_fewest 12 = .ok (.ireturn, 1) := by decide +kernel
theorem dX5_fewest_13 : decode cX5_fewest 13 = .ok (.aload_n 0, 1) := by decide +kernel
theorem dX5_fewest_14 : decode cX5_fewest 14 = .ok (.getfield 183, 3) := by decide +kernel
theorem dX5_fewest_17 : decode cX5_fewest 17 = .ok (.ifCond .ne 24, 3) := by decide +kernel
theorem dX5_fewest_20 : decode cX5_fewest 20 = .ok (.aload_n 0, 1) := by decide +kernel
theorem dX5_fewest_21 : decode cX5_fewest 21 = .ok (.aload_n 0, 1) := by decide +kernel
theorem dX5_fewest_22 : decode cX5_fewest 22 = .ok (.getfield 44, 3) := by decide +kernel
theorem dX5_fewest_25 : decode cX5_fewest 25 = .ok (.aload_n 0, 1) := by decide +kernel
theorem dX5_fewest_26 : decode cX5_fewest 26 = .ok (.getfield 12, 3) := by decide +kernel
theorem dX5_fewest_29 : decode cX5_fewest 29 = .ok (.iconst 1, 1) := by decide +kernel
theorem dX5_fewest_30 : decode cX5_fewest 30 = .ok (.invokevirtual 187, 3) := by decide +kernel
theorem dX5_fewest_33 : decode cX5_fewest 33 = .ok (.putfield 191, 3) := by decide +kernel
theorem dX5_fewest_36 : decode cX5_fewest 36 = .ok (.aload_n 0, 1) := by decide +kernel
theorem dX5_fewest_37 : decode cX5_fewest 37 = .ok (.iconst 1, 1) := by decide +kernel
theorem dX5_fewest_38 : decode cX5_fewest 38 = .ok (.putfield 183, 3) := by decide +kernel
theorem dX5_fewest_41 : decode cX5_fewest 41 = .ok (.aload_n 0, 1) := by decide +kernel
theorem dX5_fewest_42 : decode cX5_fewest 42 = .ok (.getfield 191, 3) := by decide +kernel
theorem dX5_fewest_45 : decode cX5_fewest 45 = .ok (.ireturn, 1) := by decide +kernel
theorem dX5_cost_0 : decode cX5_cost 0 = .ok (.aload_n 0, 1) := by decide +kernel
theorem dX5_cost_1 : decode cX5_cost 1 = .ok (.getfield 12, 3) := by decide +kernel
theorem dX5_cost_4 : decode cX5_cost 4 = .ok (.iload_n 1, 1) := by decide +kernel
theorem dX5_cost_5 : decode cX5_cost 5 = .ok (.invokevirtual 105, 3) := by decide +kernel
theorem dX5_cost_8 : decode cX5_cost 8 = .ok (.ifCond .ne 5, 3) := by decide +kernel
theorem dX5_cost_11 : decode cX5_cost 11 = .ok (.iconst (-1), 1) := by decide +kernel
theorem dX5_cost_12 : decode cX5_cost 12 = .ok (.ireturn, 1) := by decide +kernel
theorem dX5_cost_13 : decode cX5_cost 13 = .ok (.aload_n 0, 1) := by decide +kernel
theorem dX5_cost_14 : decode cX5_cost 14 = .ok (.getfield 12, 3) := by decide +kernel
theorem dX5_cost_17 : decode cX5_cost 17 = .ok (.getfield 89, 3) := by decide +kernel
theorem dX5_cost_20 : decode cX5_cost 20 = .ok (.iconst 1, 1) := by decide +kernel
theorem dX5_cost_21 : decode cX5_cost 21 = .ok (.if_icmp .ne 6, 3) := by decide +kernel
theorem dX5_cost_24 : decode cX5_cost 24 = .ok (.bipush (-9), 2) := by decide +kernel
theorem dX5_cost_26 : decode cX5_cost 26 = .ok (.ireturn, 1) := by decide +kernel
theorem dX5_cost_27 : decode cX5_cost 27 = .ok (.aload_n 0, 1) := by decide +kernel
theorem dX5_cost_28 : decode cX5_cost 28 = .ok (.invokevirtual 174, 3) := by decide +kernel
theorem dX5_cost_31 : decode cX5_cost 31 = .ok (.aload_n 0, 1) := by decide +kernel
theorem dX5_cost_32 : decode cX5_cost 32 = .ok (.getfield 177, 3) := by decide +kernel
theorem dX5_cost_35 : decode cX5_cost 35 = .ok (.bipush (-9), 2) := by decide +kernel
theorem dX5_cost_37 : decode cX5_cost 37 = .ok (.if_icmp .ne 6, 3) := by decide +kernel
theorem dX5_cost_40 : decode cX5_cost 40 = .ok (.bipush (-9), 2) := by decide +kernel
theorem dX5_cost_42 : decode cX5_cost 42 = .ok (.ireturn, 1) := by decide +kernel
theorem dX5_cost_43 : decode cX5_cost 43 = .ok (.aload_n 0, 1) := by decide +kernel
theorem dX5_cost_44 : decode cX5_cost 44 = .ok (.getfield 18, 3) := by decide +kernel
theorem dX5_cost_47 : decode cX5_cost 47 = .ok (.aload_n 0, 1) := by decide +kernel
theorem dX5_cost_48 : decode cX5_cost 48 = .ok (.getfield 12, 3) := by decide +kernel
theorem dX5_cost_51 : decode cX5_cost 51 = .ok (.invokevirtual 79, 3) := by decide +kernel
theorem dX5_cost_54 : decode cX5_cost 54 = .ok (.aload_n 0, 1) := by decide +kernel
theorem dX5_cost_55 : decode cX5_cost 55 = .ok (.getfield 18, 3) := by decide +kernel
theorem dX5_cost_58 : decode cX5_cost 58 = .ok (.iload_n 1, 1) := by decide +kernel
theorem dX5_cost_59 : decode cX5_cost 59 = .ok (.invokevirtual 194, 3) := by decide +kernel
theorem dX5_cost_62 : decode cX5_cost 62 = .ok (.aload_n 0, 1) := by decide +kernel
theorem dX5_cost_63 : decode cX5_cost 63 = .ok (.getfield 44, 3) := by decide +kernel
theorem dX5_cost_66 : decode cX5_cost 66 = .ok (.aload_n 0, 1) := by decide +kernel
theorem dX5_cost_67 : decode cX5_cost 67 = .ok (.getfield 18, 3) := by decide +kernel
theorem dX5_cost_70 : decode cX5_cost 70 = .ok (.iconst 0, 1) := by decide +kernel
theorem dX5_cost_71 : decode cX5_cost 71 = .ok (.invokevirtual 187, 3) := by decide +kernel
theorem dX5_cost_74 : decode cX5_cost 74 = .ok (.istore_n 2, 1) := by decide +kernel
theorem dX5_cost_75 : decode cX5_cost 75 = .ok (.iload_n 2, 1) := by decide +kernel
theorem dX5_cost_76 : decode cX5_cost 76 = .ok (.bipush (-9), 2) := by decide +kernel
theorem dX5_cost_78 : decode cX5_cost 78 = .ok (.if_icmp .ne 8, 3) := by decide +kernel
theorem dX5_cost_81 : decode cX5_cost 81 = .ok (.bipush (-9), 2) := by decide +kernel
theorem dX5_cost_83 : decode cX5_cost 83 = .ok (.goto 13, 3) := by decide +kernel
theorem dX5_cost_86 : decode cX5_cost 86 = .ok (.aload_n 0, 1) := by decide +kernel
theorem dX5_cost_87 : decode cX5_cost 87 = .ok (.getfield 177, 3) := by decide +kernel
theorem dX5_cost_90 : decode cX5_cost 90 = .ok (.iload_n 2, 1) := by decide +kernel
theorem dX5_cost_91 : decode cX5_cost 91 = .ok (.isub, 1) := by decide +kernel
theorem dX5_cost_92 : decode cX5_cost 92 = .ok (.sipush 1000, 3) := by decide +kernel
theorem dX5_cost_95 : decode cX5_cost 95 = .ok (.iadd, 1) := by decide +kernel
theorem dX5_cost_96 : decode cX5_cost 96 = .ok (.ireturn, 1) := by decide +kernel
theorem dX5_help_0 : decode cX5_help 0 = .ok (.iload_n 1, 1) := by decide +kernel
theorem dX5_help_1 : decode cX5_help 1 = .ok (.ifCond .lt 9, 3) := by decide +kernel
theorem dX5_help_4 : decode cX5_help 4 = .ok (.iload_n 1, 1) := by decide +kernel
theorem dX5_help_5 : decode cX5_help 5 = .ok (.bipush 36, 2) := by decide +kernel
theorem dX5_help_7 : decode cX5_help 7 = .ok (.if_icmp .le 6, 3) := by decide +kernel
theorem dX5_help_10 : decode cX5_help 10 = .ok (.bipush (-2), 2) := by decide +kernel
theorem dX5_help_12 : decode cX5_help 12 = .ok (.ireturn, 1) := by decide +kernel
theorem dX5_help_13 : decode cX5_help 13 = .ok (.aload_n 0, 1) := by decide +kernel
theorem dX5_help_14 : decode cX5_help 14 = .ok (.getfield 12, 3) := by decide +kernel
theorem dX5_help_17 : decode cX5_help 17 = .ok (.invokevirtual 114, 3) := by decide +kernel
theorem dX5_help_20 : decode cX5_help 20 = .ok (.ifCond .ne 6, 3) := by decide +kernel
theorem dX5_help_23 : decode cX5_help 23 = .ok (.bipush (-3), 2) := by decide +kernel
theorem dX5_help_25 : decode cX5_help 25 = .ok (.ireturn, 1) := by decide +kernel
theorem dX5_help_26 : decode cX5_help 26 = .ok (.aload_n 0, 1) := by decide +kernel
theorem dX5_help_27 : decode cX5_help 27 = .ok (.invokevirtual 174, 3) := by decide +kernel
theorem dX5_help_30 : decode cX5_help 30 = .ok (.aload_n 0, 1) := by decide +kernel
theorem dX5_help_31 : decode cX5_help 31 = .ok (.getfield 177, 3) := by decide +kernel
theorem dX5_help_34 : decode cX5_help 34 = .ok (.bipush (-9), 2) := by decide +kernel
theorem dX5_help_36 : decode cX5_help 36 = .ok (.if_icmp .ne 6, 3) := by decide +kernel
theorem dX5_help_39 : decode cX5_help 39 = .ok (.bipush (-9), 2) := by decide +kernel
theorem dX5_help_41 : decode cX5_help 41 = .ok (.ireturn, 1) := by decide +kernel
theorem dX5_help_42 : decode cX5_help 42 = .ok (.aload_n 0, 1) := by decide +kernel
theorem dX5_help_43 : decode cX5_help 43 = .ok (.getfield 18, 3) := by decide +kernel
theorem dX5_help_46 : decode cX5_help 46 = .ok (.aload_n 0, 1) := by decide +kernel
theorem dX5_help_47 : decode cX5_help 47 = .ok (.getfield 12, 3) := by decide +kernel
theorem dX5_help_50 : decode cX5_help 50 = .ok (.invokevirtual 79, 3) := by decide +kernel
theorem dX5_help_53 : decode cX5_help 53 = .ok (.aload_n 0, 1) := by decide +kernel
theorem dX5_help_54 : decode cX5_help 54 = .ok (.getfield 18, 3) := by decide +kernel
theorem dX5_help_57 : decode cX5_help 57 = .ok (.dup, 1) := by decide +kernel
theorem dX5_help_58 : decode cX5_help 58 = .ok (.getfield 118, 3) := by decide +kernel
theorem dX5_help_61 : decode cX5_help 61 = .ok (.iload_n 1, 1) := by decide +kernel
theorem dX5_help_62 : decode cX5_help 62 = .ok (.iadd, 1) := by decide +kernel
theorem dX5_help_63 : decode cX5_help 63 = .ok (.putfield 118, 3) := by decide +kernel
theorem dX5_help_66 : decode cX5_help 66 = .ok (.aload_n 0, 1) := by decide +kernel
theorem dX5_help_67 : decode cX5_help 67 = .ok (.getfield 44, 3) := by decide +kernel
theorem dX5_help_70 : decode cX5_help 70 = .ok (.aload_n 0, 1) := by decide +kernel
theorem dX5_help_71 : decode cX5_help 71 = .ok (.getfield 18, 3) := by decide +kernel
theorem dX5_help_74 : decode cX5_help 74 = .ok (.iconst 0, 1) := by decide +kernel
theorem dX5_help_75 : decode cX5_help 75 = .ok (.invokevirtual 187, 3) := by decide +kernel
theorem dX5_help_78 : decode cX5_help 78 = .ok (.istore_n 2, 1) := by decide +kernel
theorem dX5_help_79 : decode cX5_help 79 = .ok (.iload_n 2, 1) := by decide +kernel
theorem dX5_help_80 : decode cX5_help 80 = .ok (.bipush (-9), 2) := by decide +kernel
theorem dX5_help_82 : decode cX5_help 82 = .ok (.if_icmp .ne 8, 3) := by decide +kernel
theorem dX5_help_85 : decode cX5_help 85 = .ok (.bipush (-9), 2) := by decide +kernel
theorem dX5_help_87 : decode cX5_help 87 = .ok (.goto 9, 3) := by decide +kernel
theorem dX5_help_90 : decode cX5_help 90 = .ok (.aload_n 0, 1) := by decide +kernel
theorem dX5_help_91 : decode cX5_help 91 = .ok (.getfield 177, 3) := by decide +kernel
theorem dX5_help_94 : decode cX5_help 94 = .ok (.iload_n 2, 1) := by decide +kernel
theorem dX5_help_95 : decode cX5_help 95 = .ok (.isub, 1) := by decide +kernel
theorem dX5_help_96 : decode cX5_help 96 = .ok (.ireturn, 1) := by decide +kernel
theorem dX5_makePlan_0 : decode cX5_makePlan 0 = .ok (.aload_n 0, 1) := by decide +kernel
theorem dX5_makePlan_1 : decode cX5_makePlan 1 = .ok (.getfield 198, 3) := by decide +kernel
theorem dX5_makePlan_4 : decode cX5_makePlan 4 = .ok (.ifCond .eq 4, 3) := by decide +kernel
theorem dX5_makePlan_7 : decode cX5_makePlan 7 = .ok (.return_, 1) := by decide +kernel
theorem dX5_makePlan_8 : decode cX5_makePlan 8 = .ok (.aload_n 0, 1) := by decide +kernel
theorem dX5_makePlan_9 : decode cX5_makePlan 9 = .ok (.aload_n 0, 1) := by decide +kernel
theorem dX5_makePlan_10 : decode cX5_makePlan 10 = .ok (.getfield 44, 3) := by decide +kernel
theorem dX5_makePlan_13 : decode cX5_makePlan 13 = .ok (.aload_n 0, 1) := by decide +kernel
theorem dX5_makePlan_14 : decode cX5_makePlan 14 = .ok (.getfield 12, 3) := by decide +kernel
theorem dX5_makePlan_17 : decode cX5_makePlan 17 = .ok (.iconst 0, 1) := by decide +kernel
theorem dX5_makePlan_18 : decode cX5_makePlan 18 = .ok (.invokevirtual 187, 3) := by decide +kernel
theorem dX5_makePlan_21 : decode cX5_makePlan 21 = .ok (.putfield 177, 3) := by decide +kernel
theorem dX5_makePlan_24 : decode cX5_makePlan 24 = .ok (.aload_n 0, 1) := by decide +kernel
theorem dX5_makePlan_25 : decode cX5_makePlan 25 = .ok (.aload_n 0, 1) := by decide +kernel
theorem dX5_makePlan_26 : decode cX5_makePlan 26 = .ok (.getfield 177, 3) := by decide +kernel
theorem dX5_makePlan_29 : decode cX5_makePlan 29 = .ok (.bipush (-9), 2) := by decide +kernel
theorem dX5_makePlan_31 : decode cX5_makePlan 31 = .ok (.if_icmp .ne 7, 3) := by decide +kernel
theorem dX5_makePlan_34 : decode cX5_makePlan 34 = .ok (.iconst 0, 1) := by decide +kernel
theorem dX5_makePlan_35 : decode cX5_makePlan 35 = .ok (.goto 14, 3) := by decide +kernel
theorem dX5_makePlan_38 : decode cX5_makePlan 38 = .ok (.aload_n 0, 1) := by decide +kernel
theorem dX5_makePlan_39 : decode cX5_makePlan 39 = .ok (.getfield 44, 3) := by decide +kernel
theorem dX5_makePlan_42 : decode cX5_makePlan 42 = .ok (.aload_n 0, 1) := by decide +kernel
theorem dX5_makePlan_43 : decode cX5_makePlan 43 = .ok (.getfield 48, 3) := by decide +kernel
theorem dX5_makePlan_46 : decode cX5_makePlan 46 = .ok (.invokevirtual 201, 3) := by decide +kernel
theorem dX5_makePlan_49 : decode cX5_makePlan 49 = .ok (.putfield 180, 3) := by decide +kernel
theorem dX5_makePlan_52 : decode cX5_makePlan 52 = .ok (.aload_n 0, 1) := by decide +kernel
theorem dX5_makePlan_53 : decode cX5_makePlan 53 = .ok (.iconst 1, 1) := by decide +kernel
theorem dX5_makePlan_54 : decode cX5_makePlan 54 = .ok (.putfield 198, 3) := by decide +kernel
theorem dX5_makePlan_57 : decode cX5_makePlan 57 = .ok (.return_, 1) := by decide +kernel
theorem dX5_forgetSearches_0 : decode cX5_forgetSearches 0 = .ok (.aload_n 0, 1) := by decide +kernel
theorem dX5_forgetSearches_1 : decode cX5_forgetSearches 1 = .ok (.iconst 0, 1) := by decide +kernel
theorem dX5_forgetSearches_2 : decode cX5_forgetSearches 2 = .ok (.putfield 198, 3) := by decide +kernel
theorem dX5_forgetSearches_5 : decode cX5_forgetSearches 5 = .ok (.aload_n 0, 1) := by decide +kernel
theorem dX5_forgetSearches_6 : decode cX5_forgetSearches 6 = .ok (.iconst 0, 1) := by decide +kernel
theorem dX5_forgetSearches_7 : decode cX5_forgetSearches 7 = .ok (.putfield 183, 3) := by decide +kernel
theorem dX5_forgetSearches_10 : decode cX5_forgetSearches 10 = .ok (.return_, 1) := by decide +kernel
theorem dX5_reading_0 : decode cX5_reading 0 = .ok (.aload_n 0, 1) := by decide +kernel
theorem dX5_reading_1 : decode cX5_reading 1 = .ok (.getfield 12, 3) := by decide +kernel
theorem dX5_reading_4 : decode cX5_reading 4 = .ok (.iload_n 1, 1) := by decide +kernel
theorem dX5_reading_5 : decode cX5_reading 5 = .ok (.invokevirtual 105, 3) := by decide +kernel
theorem dX5_reading_8 : decode cX5_reading 8 = .ok (.ifCond .eq 14, 3) := by decide +kernel
theorem dX5_reading_11 : decode cX5_reading 11 = .ok (.aload_n 0, 1) := by decide +kernel
theorem dX5_reading_12 : decode cX5_reading 12 = .ok (.getfield 12, 3) := by decide +kernel
theorem dX5_reading_15 : decode cX5_reading 15 = .ok (.iload_n 2, 1) := by decide +kernel
theorem dX5_reading_16 : decode cX5_reading 16 = .ok (.invokevirtual 147, 3) := by decide +kernel
theorem dX5_reading_19 : decode cX5_reading 19 = .ok (.ifCond .ne 5, 3) := by decide +kernel
theorem dX5_reading_22 : decode cX5_reading 22 = .ok (.iconst (-1), 1) := by decide +kernel
theorem dX5_reading_23 : decode cX5_reading 23 = .ok (.ireturn, 1) := by decide +kernel
theorem dX5_reading_24 : decode cX5_reading 24 = .ok (.iload_n 3, 1) := by decide +kernel
theorem dX5_reading_25 : decode cX5_reading 25 = .ok (.ifCond .lt 9, 3) := by decide +kernel
theorem dX5_reading_28 : decode cX5_reading 28 = .ok (.iload_n 3, 1) := by decide +kernel
theorem dX5_reading_29 : decode cX5_reading 29 = .ok (.bipush 99, 2) := by decide +kernel
theorem dX5_reading_31 : decode cX5_reading 31 = .ok (.if_icmp .le 6, 3) := by decide +kernel
theorem dX5_reading_34 : decode cX5_reading 34 = .ok (.bipush (-2), 2) := by decide +kernel
theorem dX5_reading_36 : decode cX5_reading 36 = .ok (.ireturn, 1) := by decide +kernel
theorem dX5_reading_37 : decode cX5_reading 37 = .ok (.aload_n 0, 1) := by decide +kernel
theorem dX5_reading_38 : decode cX5_reading 38 = .ok (.getfield 30, 3) := by decide +kernel
theorem dX5_reading_41 : decode cX5_reading 41 = .ok (.iload_n 1, 1) := by decide +kernel
theorem dX5_reading_42 : decode cX5_reading 42 = .ok (.iload_n 2, 1) := by decide +kernel
theorem dX5_reading_43 : decode cX5_reading 43 = .ok (.iload_n 3, 1) := by decide +kernel
theorem dX5_reading_44 : decode cX5_reading 44 = .ok (.invokevirtual 205, 3) := by decide +kernel
theorem dX5_reading_47 : decode cX5_reading 47 = .ok (.ireturn, 1) := by decide +kernel
theorem dX5_back_0 : decode cX5_back 0 = .ok (.iload_n 1, 1) := by decide +kernel
theorem dX5_back_1 : decode cX5_back 1 = .ok (.ifCond .lt 14, 3) := by decide +kernel
theorem dX5_back_4 : decode cX5_back 4 = .ok (.iload_n 1, 1) := by decide +kernel
theorem dX5_back_5 : decode cX5_back 5 = .ok (.aload_n 0, 1) := by decide +kernel
theorem dX5_back_6 : decode cX5_back 6 = .ok (.getfield 30, 3) := by decide +kernel
theorem dX5_back_9 : decode cX5_back 9 = .ok (.getfield 83, 3) := by decide +kernel
theorem dX5_back_12 : decode cX5_back 12 = .ok (.if_icmp .le 6, 3) := by decide +kernel
theorem dX5_back_15 : decode cX5_back 15 = .ok (.bipush (-2), 2) := by decide +kernel
theorem dX5_back_17 : decode cX5_back 17 = .ok (.ireturn, 1) := by decide +kernel
theorem dX5_back_18 : decode cX5_back 18 = .ok (.aload_n 0, 1) := by decide +kernel
theorem dX5_back_19 : decode cX5_back 19 = .ok (.getfield 30, 3) := by decide +kernel
theorem dX5_back_22 : decode cX5_back 22 = .ok (.dup, 1) := by decide +kernel
theorem dX5_back_23 : decode cX5_back 23 = .ok (.getfield 83, 3) := by decide +kernel
theorem dX5_back_26 : decode cX5_back 26 = .ok (.iload_n 1, 1) := by decide +kernel
theorem dX5_back_27 : decode cX5_back 27 = .ok (.isub, 1) := by decide +kernel
theorem dX5_back_28 : decode cX5_back 28 = .ok (.putfield 83, 3) := by decide +kernel
theorem dX5_back_31 : decode cX5_back 31 = .ok (.aload_n 0, 1) := by decide +kernel
theorem dX5_back_32 : decode cX5_back 32 = .ok (.getfield 30, 3) := by decide +kernel
theorem dX5_back_35 : decode cX5_back 35 = .ok (.getfield 83, 3) := by decide +kernel
theorem dX5_back_38 : decode cX5_back 38 = .ok (.ireturn, 1) := by decide +kernel
theorem dX5_since_0 : decode cX5_since 0 = .ok (.aload_n 0, 1) := by decide +kernel
theorem dX5_since_1 : decode cX5_since 1 = .ok (.iconst 0, 1) := by decide +kernel
theorem dX5_since_2 : decode cX5_since 2 = .ok (.putfield 53, 3) := by decide +kernel
theorem dX5_since_5 : decode cX5_since 5 = .ok (.aload_n 0, 1) := by decide +kernel
theorem dX5_since_6 : decode cX5_since 6 = .ok (.iload_n 1, 1) := by decide +kernel
theorem dX5_since_7 : decode cX5_since 7 = .ok (.iload_n 2, 1) := by decide +kernel
theorem dX5_since_8 : decode cX5_since 8 = .ok (.iload_n 3, 1) := by decide +kernel
theorem dX5_since_9 : decode cX5_since 9 = .ok (.iload 4, 2) := by decide +kernel
theorem dX5_since_11 : decode cX5_since 11 = .ok (.iconst 1, 1) := by decide +kernel
theorem dX5_since_12 : decode cX5_since 12 = .ok (.invokevirtual 130, 3) := by decide +kernel
theorem dX5_since_15 : decode cX5_since 15 = .ok (.istore 5, 2) := by decide +kernel
theorem dX5_since_17 : decode cX5_since 17 = .ok (.iload 5, 2) := by decide +kernel
theorem dX5_since_19 : decode cX5_since 19 = .ok (.ifCond .eq 6, 3) := by decide +kernel
theorem dX5_since_22 : decode cX5_since 22 = .ok (.iload 5, 2) := by decide +kernel
theorem dX5_since_24 : decode cX5_since 24 = .ok (.ireturn, 1) := by decide +kernel
theorem dX5_since_25 : decode cX5_since 25 = .ok (.aload_n 0, 1) := by decide +kernel
theorem dX5_since_26 : decode cX5_since 26 = .ok (.getfield 18, 3) := by decide +kernel
theorem dX5_since_29 : decode cX5_since 29 = .ok (.aload_n 0, 1) := by decide +kernel
theorem dX5_since_30 : decode cX5_since 30 = .ok (.getfield 12, 3) := by decide +kernel
theorem dX5_since_33 : decode cX5_since 33 = .ok (.invokevirtual 79, 3) := by decide +kernel
theorem dX5_since_36 : decode cX5_since 36 = .ok (.iconst 0, 1) := by decide +kernel
theorem dX5_since_37 : decode cX5_since 37 = .ok (.istore 6, 2) := by decide +kernel
theorem dX5_since_39 : decode cX5_since 39 = .ok (.iconst 0, 1) := by decide +kernel
theorem dX5_since_40 : decode cX5_since 40 = .ok (.istore 7, 2) := by decide +kernel
theorem dX5_since_42 : decode cX5_since 42 = .ok (.iload 7, 2) := by decide +kernel
theorem dX5_since_44 : decode cX5_since 44 = .ok (.bipush 30, 2) := by decide +kernel
theorem dX5_since_46 : decode cX5_since 46 = .ok (.if_icmp .gt 34, 3) := by decide +kernel
theorem dX5_since_49 : decode cX5_since 49 = .ok (.aload_n 0, 1) := by decide +kernel
theorem dX5_since_50 : decode cX5_since 50 = .ok (.getfield 18, 3) := by decide +kernel
theorem dX5_since_53 : decode cX5_since 53 = .ok (.iload 7, 2) := by decide +kernel
theorem dX5_since_55 : decode cX5_since 55 = .ok (.putfield 121, 3) := by decide +kernel
theorem dX5_since_58 : decode cX5_since 58 = .ok (.aload_n 0, 1) := by decide +kernel
theorem dX5_since_59 : decode cX5_since 59 = .ok (.invokevirtual 208, 3) := by decide +kernel
theorem dX5_since_62 : decode cX5_since 62 = .ok (.ifCond .eq 12, 3) := by decide +kernel
theorem dX5_since_65 : decode cX5_since 65 = .ok (.iload 6, 2) := by decide +kernel
theorem dX5_since_67 : decode cX5_since 67 = .ok (.iconst 1, 1) := by decide +kernel
theorem dX5_since_68 : decode cX5_since 68 = .ok (.iload 7, 2) := by decide +kernel
theorem dX5_since_70 : decode cX5_since 70 = .ok (.ishl, 1) := by decide +kernel
theorem dX5_since_71 : decode cX5_since 71 = .ok (.ior, 1) := by decide +kernel
theorem dX5_since_72 : decode cX5_since 72 = .ok (.istore 6, 2) := by decide +kernel
theorem dX5_since_74 : decode cX5_since 74 = .ok (.iinc 7 1, 3) := by decide +kernel
theorem dX5_since_77 : decode cX5_since 77 = .ok (.goto (-35), 3) := by decide +kernel
theorem dX5_since_80 : decode cX5_since 80 = .ok (.iload 6, 2) := by decide +kernel
theorem dX5_since_82 : decode cX5_since 82 = .ok (.ireturn, 1) := by decide +kernel
theorem dX5_kinds_0 : decode cX5_kinds 0 = .ok (.aload_n 0, 1) := by decide +kernel
theorem dX5_kinds_1 : decode cX5_kinds 1 = .ok (.iconst 0, 1) := by decide +kernel
theorem dX5_kinds_2 : decode cX5_kinds 2 = .ok (.putfield 53, 3) := by decide +kernel
theorem dX5_kinds_5 : decode cX5_kinds 5 = .ok (.aload_n 0, 1) := by decide +kernel
theorem dX5_kinds_6 : decode cX5_kinds 6 = .ok (.getfield 12, 3) := by decide +kernel
theorem dX5_kinds_9 : decode cX5_kinds 9 = .ok (.iload_n 1, 1) := by decide +kernel
theorem dX5_kinds_10 : decode cX5_kinds 10 = .ok (.invokevirtual 105, 3) := by decide +kernel
theorem dX5_kinds_13 : decode cX5_kinds 13 = .ok (.ifCond .ne 5, 3) := by decide +kernel
theorem dX5_kinds_16 : decode cX5_kinds 16 = .ok (.iconst (-1), 1) := by decide +kernel
theorem dX5_kinds_17 : decode cX5_kinds 17 = .ok (.ireturn, 1) := by decide +kernel
theorem dX5_kinds_18 : decode cX5_kinds 18 = .ok (.aload_n 0, 1) := by decide +kernel
theorem dX5_kinds_19 : decode cX5_kinds 19 = .ok (.iload_n 2, 1) := by decide +kernel
theorem dX5_kinds_20 : decode cX5_kinds 20 = .ok (.iload_n 3, 1) := by decide +kernel
theorem dX5_kinds_21 : decode cX5_kinds 21 = .ok (.iload 4, 2) := by decide +kernel
theorem dX5_kinds_23 : decode cX5_kinds 23 = .ok (.iload 5, 2) := by decide +kernel
theorem dX5_kinds_25 : decode cX5_kinds 25 = .ok (.iconst 1, 1) := by decide +kernel
theorem dX5_kinds_26 : decode cX5_kinds 26 = .ok (.invokevirtual 130, 3) := by decide +kernel
theorem dX5_kinds_29 : decode cX5_kinds 29 = .ok (.istore 6, 2) := by decide +kernel
theorem dX5_kinds_31 : decode cX5_kinds 31 = .ok (.iload 6, 2) := by decide +kernel
theorem dX5_kinds_33 : decode cX5_kinds 33 = .ok (.ifCond .eq 6, 3) := by decide +kernel
theorem dX5_kinds_36 : decode cX5_kinds 36 = .ok (.iload 6, 2) := by decide +kernel
theorem dX5_kinds_38 : decode cX5_kinds 38 = .ok (.ireturn, 1) := by decide +kernel
theorem dX5_kinds_39 : decode cX5_kinds 39 = .ok (.aload_n 0, 1) := by decide +kernel
theorem dX5_kinds_40 : decode cX5_kinds 40 = .ok (.getfield 18, 3) := by decide +kernel
theorem dX5_kinds_43 : decode cX5_kinds 43 = .ok (.aload_n 0, 1) := by decide +kernel
theorem dX5_kinds_44 : decode cX5_kinds 44 = .ok (.getfield 12, 3) := by decide +kernel
theorem dX5_kinds_47 : decode cX5_kinds 47 = .ok (.invokevirtual 79, 3) := by decide +kernel
theorem dX5_kinds_50 : decode cX5_kinds 50 = .ok (.iconst 0, 1) := by decide +kernel
theorem dX5_kinds_51 : decode cX5_kinds 51 = .ok (.istore 7, 2) := by decide +kernel
theorem dX5_kinds_53 : decode cX5_kinds 53 = .ok (.iconst 0, 1) := by decide +kernel
theorem dX5_kinds_54 : decode cX5_kinds 54 = .ok (.istore 8, 2) := by decide +kernel
theorem dX5_kinds_56 : decode cX5_kinds 56 = .ok (.iload 8, 2) := by decide +kernel
theorem dX5_kinds_58 : decode cX5_kinds 58 = .ok (.iconst 3, 1) := by decide +kernel
theorem dX5_kinds_59 : decode cX5_kinds 59 = .ok (.if_icmp .ge 36, 3) := by decide +kernel
theorem dX5_kinds_62 : decode cX5_kinds 62 = .ok (.aload_n 0, 1) := by decide +kernel
theorem dX5_kinds_63 : decode cX5_kinds 63 = .ok (.getfield 18, 3) := by decide +kernel
theorem dX5_kinds_66 : decode cX5_kinds 66 = .ok (.getfield 108, 3) := by decide +kernel
theorem dX5_kinds_69 : decode cX5_kinds 69 = .ok (.iload_n 1, 1) := by decide +kernel
theorem dX5_kinds_70 : decode cX5_kinds 70 = .ok (.iload 8, 2) := by decide +kernel
theorem dX5_kinds_72 : decode cX5_kinds 72 = .ok (.iastore, 1) := by decide +kernel
theorem dX5_kinds_73 : decode cX5_kinds 73 = .ok (.aload_n 0, 1) := by decide +kernel
theorem dX5_kinds_74 : decode cX5_kinds 74 = .ok (.invokevirtual 208, 3) := by decide +kernel
theorem dX5_kinds_77 : decode cX5_kinds 77 = .ok (.ifCond .eq 12, 3) := by decide +kernel
theorem dX5_kinds_80 : decode cX5_kinds 80 = .ok (.iload 7, 2) := by decide +kernel
theorem dX5_kinds_82 : decode cX5_kinds 82 = .ok (.iconst 1, 1) := by decide +kernel
theorem dX5_kinds_83 : decode cX5_kinds 83 = .ok (.iload 8, 2) := by decide +kernel
theorem dX5_kinds_85 : decode cX5_kinds 85 = .ok (.ishl, 1) := by decide +kernel
theorem dX5_kinds_86 : decode cX5_kinds 86 = .ok (.ior, 1) := by decide +kernel
theorem dX5_kinds_87 : decode cX5_kinds 87 = .ok (.istore 7, 2) := by decide +kernel
theorem dX5_kinds_89 : decode cX5_kinds 89 = .ok (.iinc 8 1, 3) := by decide +kernel
theorem dX5_kinds_92 : decode cX5_kinds 92 = .ok (.goto (-36), 3) := by decide +kernel
theorem dX5_kinds_95 : decode cX5_kinds 95 = .ok (.iload 7, 2) := by decide +kernel
theorem dX5_kinds_97 : decode cX5_kinds 97 = .ok (.ireturn, 1) := by decide +kernel
theorem dX5_draftIsAsRead_0 : decode cX5_draftIsAsRead 0 = .ok (.aload_n 0, 1) := by decide +kernel
theorem dX5_draftIsAsRead_1 : decode cX5_draftIsAsRead 1 = .ok (.getfield 37, 3) := by decide +kernel
theorem dX5_draftIsAsRead_4 : decode cX5_draftIsAsRead 4 = .ok (.aload_n 0, 1) := by decide +kernel
theorem dX5_draftIsAsRead_5 : decode cX5_draftIsAsRead 5 = .ok (.getfield 18, 3) := by decide +kernel
theorem dX5_draftIsAsRead_8 : decode cX5_draftIsAsRead 8 = .ok (.invokevirtual 134, 3) := by decide +kernel
theorem dX5_draftIsAsRead_11 : decode cX5_draftIsAsRead 11 = .ok (.aload_n 0, 1) := by decide +kernel
theorem dX5_draftIsAsRead_12 : decode cX5_draftIsAsRead 12 = .ok (.getfield 37, 3) := by decide +kernel
theorem dX5_draftIsAsRead_15 : decode cX5_draftIsAsRead 15 = .ok (.getfield 137, 3) := by decide +kernel
theorem dX5_draftIsAsRead_18 : decode cX5_draftIsAsRead 18 = .ok (.bipush (-9), 2) := by decide +kernel
theorem dX5_draftIsAsRead_20 : decode cX5_draftIsAsRead 20 = .ok (.if_icmp .ne 21, 3) := by decide +kernel
theorem dX5_draftIsAsRead_23 : decode cX5_draftIsAsRead 23 = .ok (.aload_n 0, 1) := by decide +kernel
theorem dX5_draftIsAsRead_24 : decode cX5_draftIsAsRead 24 = .ok (.getfield 30, 3) := by decide +kernel
theorem dX5_draftIsAsRead_27 : decode cX5_draftIsAsRead 27 = .ok (.aload_n 0, 1) := by decide +kernel
theorem dX5_draftIsAsRead_28 : decode cX5_draftIsAsRead 28 = .ok (.getfield 37, 3) := by decide +kernel
theorem dX5_draftIsAsRead_31 : decode cX5_draftIsAsRead 31 = .ok (.invokevirtual 211, 3) := by decide +kernel
theorem dX5_draftIsAsRead_34 : decode cX5_draftIsAsRead 34 = .ok (.ifCond .eq 7, 3) := by decide +kernel
theorem dX5_draftIsAsRead_37 : decode cX5_draftIsAsRead 37 = .ok (.iconst 1, 1) := by decide +kernel
theorem dX5_draftIsAsRead_38 : decode cX5_draftIsAsRead 38 = .ok (.goto 4, 3) := by decide +kernel
theorem dX5_draftIsAsRead_41 : decode cX5_draftIsAsRead 41 = .ok (.iconst 0, 1) := by decide +kernel
theorem dX5_draftIsAsRead_42 : decode cX5_draftIsAsRead 42 = .ok (.ireturn, 1) := by decide +kernel
theorem dX5_sheet_0 : decode cX5_sheet 0 = .ok (.aload_n 0, 1) := by decide +kernel
theorem dX5_sheet_1 : decode cX5_sheet 1 = .ok (.iconst 0, 1) := by decide +kernel
theorem dX5_sheet_2 : decode cX5_sheet 2 = .ok (.putfield 53, 3) := by decide +kernel
theorem dX5_sheet_5 : decode cX5_sheet 5 = .ok (.iload_n 1, 1) := by decide +kernel
theorem dX5_sheet_6 : decode cX5_sheet 6 = .ok (.invokestatic 57, 3) := by decide +kernel
theorem dX5_sheet_9 : decode cX5_sheet 9 = .ok (.ifCond .ne 5, 3) := by decide +kernel
theorem dX5_sheet_12 : decode cX5_sheet 12 = .ok (.iconst (-1), 1) := by decide +kernel
theorem dX5_sheet_13 : decode cX5_sheet 13 = .ok (.ireturn, 1) := by decide +kernel
theorem dX5_sheet_14 : decode cX5_sheet 14 = .ok (.iload_n 2, 1) := by decide +kernel
theorem dX5_sheet_15 : decode cX5_sheet 15 = .ok (.invokestatic 61, 3) := by decide +kernel
theorem dX5_sheet_18 : decode cX5_sheet 18 = .ok (.ifCond .eq 9, 3) := by decide +kernel
theorem dX5_sheet_21 : decode cX5_sheet 21 = .ok (.iload_n 3, 1) := by decide +kernel
theorem dX5_sheet_22 : decode cX5_sheet 22 = .ok (.bipush 60, 2) := by decide +kernel
theorem dX5_sheet_24 : decode cX5_sheet 24 = .ok (.if_icmp .le 6, 3) := by decide +kernel
theorem dX5_sheet_27 : decode cX5_sheet 27 = .ok (.bipush (-2), 2) := by decide +kernel
theorem dX5_sheet_29 : decode cX5_sheet 29 = .ok (.ireturn, 1) := by decide +kernel
theorem dX5_sheet_30 : decode cX5_sheet 30 = .ok (.iload_n 3, 1) := by decide +kernel
theorem dX5_sheet_31 : decode cX5_sheet 31 = .ok (.ifCond .ge 9, 3) := by decide +kernel
theorem dX5_sheet_34 : decode cX5_sheet 34 = .ok (.aload_n 0, 1) := by decide +kernel
theorem dX5_sheet_35 : decode cX5_sheet 35 = .ok (.iconst 4, 1) := by decide +kernel
theorem dX5_sheet_36 : decode cX5_sheet 36 = .ok (.invokevirtual 68, 3) := by decide +kernel
theorem dX5_sheet_39 : decode cX5_sheet 39 = .ok (.ireturn, 1) := by decide +kernel
theorem dX5_sheet_40 : decode cX5_sheet 40 = .ok (.aload_n 0, 1) := by decide +kernel
theorem dX5_sheet_41 : decode cX5_sheet 41 = .ok (.getfield 23, 3) := by decide +kernel
theorem dX5_sheet_44 : decode cX5_sheet 44 = .ok (.iload_n 1, 1) := by decide +kernel
theorem dX5_sheet_45 : decode cX5_sheet 45 = .ok (.aaload, 1) := by decide +kernel
theorem dX5_sheet_46 : decode cX5_sheet 46 = .ok (.iload_n 2, 1) := by decide +kernel
theorem dX5_sheet_47 : decode cX5_sheet 47 = .ok (.iload_n 3, 1) := by decide +kernel
theorem dX5_sheet_48 : decode cX5_sheet 48 = .ok (.invokevirtual 215, 3) := by decide +kernel
theorem dX5_sheet_51 : decode cX5_sheet 51 = .ok (.iconst 1, 1) := by decide +kernel
theorem dX5_sheet_52 : decode cX5_sheet 52 = .ok (.ireturn, 1) := by decide +kernel
theorem dX5_lose_0 : decode cX5_lose 0 = .ok (.iload_n 1, 1) := by decide +kernel
theorem dX5_lose_1 : decode cX5_lose 1 = .ok (.invokestatic 57, 3) := by decide +kernel
theorem dX5_lose_4 : decode cX5_lose 4 = .ok (.ifCond .ne 5, 3) := by decide +kernel
theorem dX5_lose_7 : decode cX5_lose 7 = .ok (.iconst (-1), 1) := by decide +kernel
theorem dX5_lose_8 : decode cX5_lose 8 = .ok (.ireturn, 1) := by decide +kernel
theorem dX5_lose_9 : decode cX5_lose 9 = .ok (.aload_n 0, 1) := by decide +kernel
theorem dX5_lose_10 : decode cX5_lose 10 = .ok (.getfield 23, 3) := by decide +kernel
theorem dX5_lose_13 : decode cX5_lose 13 = .ok (.iload_n 1, 1) := by decide +kernel
theorem dX5_lose_14 : decode cX5_lose 14 = .ok (.aaload, 1) := by decide +kernel
theorem dX5_lose_15 : decode cX5_lose 15 = .ok (.invokevirtual 218, 3) := by decide +kernel
theorem dX5_lose_18 : decode cX5_lose 18 = .ok (.ifCond .eq 5, 3) := by decide +kernel
theorem dX5_lose_21 : decode cX5_lose 21 = .ok (.iconst 0, 1) := by decide +kernel
theorem dX5_lose_22 : decode cX5_lose 22 = .ok (.ireturn, 1) := by decide +kernel
theorem dX5_lose_23 : decode cX5_lose 23 = .ok (.aload_n 0, 1) := by decide +kernel
theorem dX5_lose_24 : decode cX5_lose 24 = .ok (.getfield 23, 3) := by decide +kernel
theorem dX5_lose_27 : decode cX5_lose 27 = .ok (.iload_n 1, 1) := by decide +kernel
theorem dX5_lose_28 : decode cX5_lose 28 = .ok (.aaload, 1) := by decide +kernel
theorem dX5_lose_29 : decode cX5_lose 29 = .ok (.bipush (-9), 2) := by decide +kernel
theorem dX5_lose_31 : decode cX5_lose 31 = .ok (.iconst 0, 1) := by decide +kernel
theorem dX5_lose_32 : decode cX5_lose 32 = .ok (.invokevirtual 215, 3) := by decide +kernel
theorem dX5_lose_35 : decode cX5_lose 35 = .ok (.iconst 1, 1) := by decide +kernel
theorem dX5_lose_36 : decode cX5_lose 36 = .ok (.ireturn, 1) := by decide +kernel
theorem dX5_put_0 : decode cX5_put 0 = .ok (.aload_n 0, 1) := by decide +kernel
theorem dX5_put_1 : decode cX5_put 1 = .ok (.iconst 0, 1) := by decide +kernel
theorem dX5_put_2 : decode cX5_put 2 = .ok (.putfield 53, 3) := by decide +kernel
theorem dX5_put_5 : decode cX5_put 5 = .ok (.iload_n 1, 1) := by decide +kernel
theorem dX5_put_6 : decode cX5_put 6 = .ok (.invokestatic 57, 3) := by decide +kernel
theorem dX5_put_9 : decode cX5_put 9 = .ok (.ifCond .ne 5, 3) := by decide +kernel
theorem dX5_put_12 : decode cX5_put 12 = .ok (.iconst (-1), 1) := by decide +kernel
theorem dX5_put_13 : decode cX5_put 13 = .ok (.ireturn, 1) := by decide +kernel
theorem dX5_put_14 : decode cX5_put 14 = .ok (.aload_n 0, 1) := by decide +kernel
theorem dX5_put_15 : decode cX5_put 15 = .ok (.getfield 23, 3) := by decide +kernel
theorem dX5_put_18 : decode cX5_put 18 = .ok (.iload_n 1, 1) := by decide +kernel
theorem dX5_put_19 : decode cX5_put 19 = .ok (.aaload, 1) := by decide +kernel
theorem dX5_put_20 : decode cX5_put 20 = .ok (.astore 4, 2) := by decide +kernel
theorem dX5_put_22 : decode cX5_put 22 = .ok (.aload 4, 2) := by decide +kernel
theorem dX5_put_24 : decode cX5_put 24 = .ok (.invokevirtual 218, 3) := by decide +kernel
theorem dX5_put_27 : decode cX5_put 27 = .ok (.ifCond .eq 9, 3) := by decide +kernel
theorem dX5_put_30 : decode cX5_put 30 = .ok (.aload_n 0, 1) := by decide +kernel
theorem dX5_put_31 : decode cX5_put 31 = .ok (.iconst 1, 1) := by decide +kernel
theorem dX5_put_32 : decode cX5_put 32 = .ok (.invokevirtual 68, 3) := by decide +kernel
theorem dX5_put_35 : decode cX5_put 35 = .ok (.ireturn, 1) := by decide +kernel
theorem dX5_put_36 : decode cX5_put 36 = .ok (.aload 4, 2) := by decide +kernel
theorem dX5_put_38 : decode cX5_put 38 = .ok (.iload_n 2, 1) := by decide +kernel
theorem dX5_put_39 : decode cX5_put 39 = .ok (.invokevirtual 221, 3) := by decide +kernel
theorem dX5_put_42 : decode cX5_put 42 = .ok (.ifCond .ne 9, 3) := by decide +kernel
theorem dX5_put_45 : decode cX5_put 45 = .ok (.aload_n 0, 1) := by decide +kernel
theorem dX5_put_46 : decode cX5_put 46 = .ok (.iconst 3, 1) := by decide +kernel
theorem dX5_put_47 : decode cX5_put 47 = .ok (.invokevirtual 68, 3) := by decide +kernel
theorem dX5_put_50 : decode cX5_put 50 = .ok (.ireturn, 1) := by decide +kernel
theorem dX5_put_51 : decode cX5_put 51 = .ok (.aload 4, 2) := by decide +kernel
theorem dX5_put_53 : decode cX5_put 53 = .ok (.iload_n 2, 1) := by decide +kernel
theorem dX5_put_54 : decode cX5_put 54 = .ok (.iload_n 3, 1) := by decide +kernel
theorem dX5_put_55 : decode cX5_put 55 = .ok (.invokevirtual 224, 3) := by decide +kernel
theorem dX5_put_58 : decode cX5_put 58 = .ok (.iconst 1, 1) := by decide +kernel
theorem dX5_put_59 : decode cX5_put 59 = .ok (.ireturn, 1) := by decide +kernel
theorem dX5_cell_0 : decode cX5_cell 0 = .ok (.aload_n 0, 1) := by decide +kernel
theorem dX5_cell_1 : decode cX5_cell 1 = .ok (.iconst 0, 1) := by decide +kernel
theorem dX5_cell_2 : decode cX5_cell 2 = .ok (.putfield 53, 3) := by decide +kernel
theorem dX5_cell_5 : decode cX5_cell 5 = .ok (.iload_n 1, 1) := by decide +kernel
theorem dX5_cell_6 : decode cX5_cell 6 = .ok (.invokestatic 57, 3) := by decide +kernel
theorem dX5_cell_9 : decode cX5_cell 9 = .ok (.ifCond .eq 10, 3) := by decide +kernel
theorem dX5_cell_12 : decode cX5_cell 12 = .ok (.iload_n 3, 1) := by decide +kernel
theorem dX5_cell_13 : decode cX5_cell 13 = .ok (.invokestatic 61, 3) := by decide +kernel
theorem dX5_cell_16 : decode cX5_cell 16 = .ok (.ifCond .ne 7, 3) := by decide +kernel
theorem dX5_cell_19 : decode cX5_cell 19 = .ok (.ldc2_w 157, 3) := by decide +kernel
theorem dX5_cell_22 : decode cX5_cell 22 = .ok (.lreturn, 1) := by decide +kernel
theorem dX5_cell_23 : decode cX5_cell 23 = .ok (.aload_n 0, 1) := by decide +kernel
theorem dX5_cell_24 : decode cX5_cell 24 = .ok (.getfield 23, 3) := by decide +kernel
theorem dX5_cell_27 : decode cX5_cell 27 = .ok (.iload_n 1, 1) := by decide +kernel
theorem dX5_cell_28 : decode cX5_cell 28 = .ok (.aaload, 1) := by decide +kernel
theorem dX5_cell_29 : decode cX5_cell 29 = .ok (.astore 4, 2) := by decide +kernel
theorem dX5_cell_31 : decode cX5_cell 31 = .ok (.aload_n 0, 1) := by decide +kernel
theorem dX5_cell_32 : decode cX5_cell 32 = .ok (.aload 4, 2) := by decide +kernel
theorem dX5_cell_34 : decode cX5_cell 34 = .ok (.iload_n 3, 1) := by decide +kernel
theorem dX5_cell_35 : decode cX5_cell 35 = .ok (.invokevirtual 64, 3) := by decide +kernel
theorem dX5_cell_38 : decode cX5_cell 38 = .ok (.putfield 53, 3) := by decide +kernel
theorem dX5_cell_41 : decode cX5_cell 41 = .ok (.aload_n 0, 1) := by decide +kernel
theorem dX5_cell_42 : decode cX5_cell 42 = .ok (.getfield 53, 3) := by decide +kernel
theorem dX5_cell_45 : decode cX5_cell 45 = .ok (.ifCond .ne 17, 3) := by decide +kernel
theorem dX5_cell_48 : decode cX5_cell 48 = .ok (.aload 4, 2) := by decide +kernel
theorem dX5_cell_50 : decode cX5_cell 50 = .ok (.iload_n 2, 1) := by decide +kernel
theorem dX5_cell_51 : decode cX5_cell 51 = .ok (.invokevirtual 221, 3) := by decide +kernel
theorem dX5_cell_54 : decode cX5_cell 54 = .ok (.ifCond .ne 8, 3) := by decide +kernel
theorem dX5_cell_57 : decode cX5_cell 57 = .ok (.aload_n 0, 1) := by decide +kernel
theorem dX5_cell_58 : decode cX5_cell 58 = .ok (.iconst 3, 1) := by decide +kernel
theorem dX5_cell_59 : decode cX5_cell 59 = .ok (.putfield 53, 3) := by decide +kernel
theorem dX5_cell_62 : decode cX5_cell 62 = .ok (.aload_n 0, 1) := by decide +kernel
theorem dX5_cell_63 : decode cX5_cell 63 = .ok (.getfield 53, 3) := by decide +kernel
theorem dX5_cell_66 : decode cX5_cell 66 = .ok (.ifCond .ne 14, 3) := by decide +kernel
theorem dX5_cell_69 : decode cX5_cell 69 = .ok (.aload 4, 2) := by decide +kernel
theorem dX5_cell_71 : decode cX5_cell 71 = .ok (.getfield 167, 3) := by decide +kernel
theorem dX5_cell_74 : decode cX5_cell 74 = .ok (.iload_n 2, 1) := by decide +kernel
theorem dX5_cell_75 : decode cX5_cell 75 = .ok (.iaload, 1) := by decide +kernel
theorem dX5_cell_76 : decode cX5_cell 76 = .ok (.i2l, 1) := by decide +kernel
theorem dX5_cell_77 : decode cX5_cell 77 = .ok (.goto 6, 3) := by decide +kernel
theorem dX5_cell_80 : decode cX5_cell 80 = .ok (.ldc2_w 157, 3) := by decide +kernel
theorem dX5_cell_83 : decode cX5_cell 83 = .ok (.lreturn, 1) := by decide +kernel
theorem dX5_copy_0 : decode cX5_copy 0 = .ok (.aload_n 0, 1) := by decide +kernel
theorem dX5_copy_1 : decode cX5_copy 1 = .ok (.iconst 0, 1) := by decide +kernel
theorem dX5_copy_2 : decode cX5_copy 2 = .ok (.putfield 53, 3) := by decide +kernel
theorem dX5_copy_5 : decode cX5_copy 5 = .ok (.iload_n 1, 1) := by decide +kernel
theorem dX5_copy_6 : decode cX5_copy 6 = .ok (.invokestatic 57, 3) := by decide +kernel
theorem dX5_copy_9 : decode cX5_copy 9 = .ok (.ifCond .eq 10, 3) := by decide +kernel
theorem dX5_copy_12 : decode cX5_copy 12 = .ok (.iload_n 3, 1) := by decide +kernel
theorem dX5_copy_13 : decode cX5_copy 13 = .ok (.invokestatic 57, 3) := by decide +kernel
theorem dX5_copy_16 : decode cX5_copy 16 = .ok (.ifCond .ne 5, 3) := by decide +kernel
theorem dX5_copy_19 : decode cX5_copy 19 = .ok (.iconst (-1), 1) := by decide +kernel
theorem dX5_copy_20 : decode cX5_copy 20 = .ok (.ireturn, 1) := by decide +kernel
theorem dX5_copy_21 : decode cX5_copy 21 = .ok (.aload_n 0, 1) := by decide +kernel
theorem dX5_copy_22 : decode cX5_copy 22 = .ok (.getfield 23, 3) := by decide +kernel
theorem dX5_copy_25 : decode cX5_copy 25 = .ok (.iload_n 1, 1) := by decide +kernel
theorem dX5_copy_26 : decode cX5_copy 26 = .ok (.aaload, 1) := by decide +kernel
theorem dX5_copy_27 : decode cX5_copy 27 = .ok (.astore 6, 2) := by decide +kernel
theorem dX5_copy_29 : decode cX5_copy 29 = .ok (.aload_n 0, 1) := by decide +kernel
theorem dX5_copy_30 : decode cX5_copy 30 = .ok (.getfield 23, 3) := by decide +kernel
theorem dX5_copy_33 : decode cX5_copy 33 = .ok (.iload_n 3, 1) := by decide +kernel
theorem dX5_copy_34 : decode cX5_copy 34 = .ok (.aaload, 1) := by decide +kernel
theorem dX5_copy_35 : decode cX5_copy 35 = .ok (.astore 7, 2) := by decide +kernel
theorem dX5_copy_37 : decode cX5_copy 37 = .ok (.aload 6, 2) := by decide +kernel
theorem dX5_copy_39 : decode cX5_copy 39 = .ok (.invokevirtual 218, 3) := by decide +kernel
theorem dX5_copy_42 : decode cX5_copy 42 = .ok (.ifCond .ne 11, 3) := by decide +kernel
theorem dX5_copy_45 : decode cX5_copy 45 = .ok (.aload 7, 2) := by decide +kernel
theorem dX5_copy_47 : decode cX5_copy 47 = .ok (.invokevirtual 218, 3) := by decide +kernel
theorem dX5_copy_50 : decode cX5_copy 50 = .ok (.ifCond .eq 9, 3) := by decide +kernel
theorem dX5_copy_53 : decode cX5_copy 53 = .ok (.aload_n 0, 1) := by decide +kernel
theorem dX5_copy_54 : decode cX5_copy 54 = .ok (.iconst 1, 1) := by decide +kernel
theorem dX5_copy_55 : decode cX5_copy 55 = .ok (.invokevirtual 68, 3) := by decide +kernel
theorem dX5_copy_58 : decode cX5_copy 58 = .ok (.ireturn, 1) := by decide +kernel
theorem dX5_copy_59 : decode cX5_copy 59 = .ok (.aload 6, 2) := by decide +kernel
theorem dX5_copy_61 : decode cX5_copy 61 = .ok (.getfield 227, 3) := by decide +kernel
theorem dX5_copy_64 : decode cX5_copy 64 = .ok (.aload 7, 2) := by decide +kernel
theorem dX5_copy_66 : decode cX5_copy 66 = .ok (.getfield 227, 3) := by decide +kernel
theorem dX5_copy_69 : decode cX5_copy 69 = .ok (.if_icmp .eq 9, 3) := by decide +kernel
theorem dX5_copy_72 : decode cX5_copy 72 = .ok (.aload_n 0, 1) := by decide +kernel
theorem dX5_copy_73 : decode cX5_copy 73 = .ok (.iconst 2, 1) := by decide +kernel
theorem dX5_copy_74 : decode cX5_copy 74 = .ok (.invokevirtual 68, 3) := by decide +kernel
theorem dX5_copy_77 : decode cX5_copy 77 = .ok (.ireturn, 1) := by decide +kernel
theorem dX5_copy_78 : decode cX5_copy 78 = .ok (.aload 6, 2) := by decide +kernel
theorem dX5_copy_80 : decode cX5_copy 80 = .ok (.iload_n 2, 1) := by decide +kernel
theorem dX5_copy_81 : decode cX5_copy 81 = .ok (.iload 5, 2) := by decide +kernel
theorem dX5_copy_83 : decode cX5_copy 83 = .ok (.invokevirtual 71, 3) := by decide +kernel
theorem dX5_copy_86 : decode cX5_copy 86 = .ok (.ifCond .eq 15, 3) := by decide +kernel
theorem dX5_copy_89 : decode cX5_copy 89 = .ok (.aload 7, 2) := by decide +kernel
theorem dX5_copy_91 : decode cX5_copy 91 = .ok (.iload 4, 2) := by decide +kernel
theorem dX5_copy_93 : decode cX5_copy 93 = .ok (.iload 5, 2) := by decide +kernel
theorem dX5_copy_95 : decode cX5_copy 95 = .ok (.invokevirtual 71, 3) := by decide +kernel
theorem dX5_copy_98 : decode cX5_copy 98 = .ok (.ifCond .ne 9, 3) := by decide +kernel
theorem dX5_copy_101 : decode cX5_copy 101 = .ok (.aload_n 0, 1) := by decide +kernel
theorem dX5_copy_102 : decode cX5_copy 102 = .ok (.iconst 3, 1) := by decide +kernel
theorem dX5_copy_103 : decode cX5_copy 103 = .ok (.invokevirtual 68, 3) := by decide +kernel
theorem dX5_copy_106 : decode cX5_copy 106 = .ok (.ireturn, 1) := by decide +kernel
theorem dX5_copy_107 : decode cX5_copy 107 = .ok (.aload 6, 2) := by decide +kernel
theorem dX5_copy_109 : decode cX5_copy 109 = .ok (.getfield 167, 3) := by decide +kernel
theorem dX5_copy_112 : decode cX5_copy 112 = .ok (.iload_n 2, 1) := by decide +kernel
theorem dX5_copy_113 : decode cX5_copy 113 = .ok (.aload 7, 2) := by decide +kernel
theorem dX5_copy_115 : decode cX5_copy 115 = .ok (.getfield 167, 3) := by decide +kernel
theorem dX5_copy_118 : decode cX5_copy 118 = .ok (.iload 4, 2) := by decide +kernel
theorem dX5_copy_120 : decode cX5_copy 120 = .ok (.iload 5, 2) := by decide +kernel
theorem dX5_copy_122 : decode cX5_copy 122 = .ok (.invokestatic 230, 3) := by decide +kernel
theorem dX5_copy_125 : decode cX5_copy 125 = .ok (.iload 5, 2) := by decide +kernel
theorem dX5_copy_127 : decode cX5_copy 127 = .ok (.ireturn, 1) := by decide +kernel
theorem dX5_tell_0 : decode cX5_tell 0 = .ok (.aload_n 0, 1) := by decide +kernel
theorem dX5_tell_1 : decode cX5_tell 1 = .ok (.getfield 12, 3) := by decide +kernel
theorem dX5_tell_4 : decode cX5_tell 4 = .ok (.iload_n 1, 1) := by decide +kernel
theorem dX5_tell_5 : decode cX5_tell 5 = .ok (.invokevirtual 105, 3) := by decide +kernel
theorem dX5_tell_8 : decode cX5_tell 8 = .ok (.ifCond .ne 5, 3) := by decide +kernel
theorem dX5_tell_11 : decode cX5_tell 11 = .ok (.iconst (-1), 1) := by decide +kernel
theorem dX5_tell_12 : decode cX5_tell 12 = .ok (.ireturn, 1) := by decide +kernel
theorem dX5_tell_13 : decode cX5_tell 13 = .ok (.aload_n 0, 1) := by decide +kernel
theorem dX5_tell_14 : decode cX5_tell 14 = .ok (.getfield 12, 3) := by decide +kernel
theorem dX5_tell_17 : decode cX5_tell 17 = .ok (.getfield 108, 3) := by decide +kernel
theorem dX5_tell_20 : decode cX5_tell 20 = .ok (.iload_n 1, 1) := by decide +kernel
theorem dX5_tell_21 : decode cX5_tell 21 = .ok (.iaload, 1) := by decide +kernel
theorem dX5_tell_22 : decode cX5_tell 22 = .ok (.lookupswitch 38 #[(1, 32), (2, 26)], 26) := by decide +kernel
theorem dX5_tell_48 : decode cX5_tell 48 = .ok (.aload_n 0, 1) := by decide +kernel
theorem dX5_tell_49 : decode cX5_tell 49 = .ok (.iload_n 1, 1) := by decide +kernel
theorem dX5_tell_50 : decode cX5_tell 50 = .ok (.invokevirtual 236, 3) := by decide +kernel
theorem dX5_tell_53 : decode cX5_tell 53 = .ok (.ireturn, 1) := by decide +kernel
theorem dX5_tell_54 : decode cX5_tell 54 = .ok (.aload_n 0, 1) := by decide +kernel
theorem dX5_tell_55 : decode cX5_tell 55 = .ok (.iload_n 1, 1) := by decide +kernel
theorem dX5_tell_56 : decode cX5_tell 56 = .ok (.invokevirtual 239, 3) := by decide +kernel
theorem dX5_tell_59 : decode cX5_tell 59 = .ok (.ireturn, 1) := by decide +kernel
theorem dX5_tell_60 : decode cX5_tell 60 = .ok (.aload_n 0, 1) := by decide +kernel
theorem dX5_tell_61 : decode cX5_tell 61 = .ok (.iload_n 1, 1) := by decide +kernel
theorem dX5_tell_62 : decode cX5_tell 62 = .ok (.invokevirtual 242, 3) := by decide +kernel
theorem dX5_tell_65 : decode cX5_tell 65 = .ok (.ireturn, 1) := by decide +kernel
theorem dX5_hail_0 : decode cX5_hail 0 = .ok (.aload_n 0, 1) := by decide +kernel
theorem dX5_hail_1 : decode cX5_hail 1 = .ok (.getfield 12, 3) := by decide +kernel
theorem dX5_hail_4 : decode cX5_hail 4 = .ok (.iload_n 1, 1) := by decide +kernel
theorem dX5_hail_5 : decode cX5_hail 5 = .ok (.invokevirtual 105, 3) := by decide +kernel
theorem dX5_hail_8 : decode cX5_hail 8 = .ok (.ifCond .ne 5, 3) := by decide +kernel
theorem dX5_hail_11 : decode cX5_hail 11 = .ok (.iconst (-1), 1) := by decide +kernel
theorem dX5_hail_12 : decode cX5_hail 12 = .ok (.ireturn, 1) := by decide +kernel
theorem dX5_hail_13 : decode cX5_hail 13 = .ok (.aload_n 0, 1) := by decide +kernel
theorem dX5_hail_14 : decode cX5_hail 14 = .ok (.getfield 12, 3) := by decide +kernel
theorem dX5_hail_17 : decode cX5_hail 17 = .ok (.getfield 108, 3) := by decide +kernel
theorem dX5_hail_20 : decode cX5_hail 20 = .ok (.iload_n 1, 1) := by decide +kernel
theorem dX5_hail_21 : decode cX5_hail 21 = .ok (.iaload, 1) := by decide +kernel
theorem dX5_hail_22 : decode cX5_hail 22 = .ok (.iconst 2, 1) := by decide +kernel
theorem dX5_hail_23 : decode cX5_hail 23 = .ok (.if_icmp .ne 11, 3) := by decide +kernel
theorem dX5_hail_26 : decode cX5_hail 26 = .ok (.aload_n 0, 1) := by decide +kernel
theorem dX5_hail_27 : decode cX5_hail 27 = .ok (.iconst 5, 1) := by decide +kernel
theorem dX5_hail_28 : decode cX5_hail 28 = .ok (.invokevirtual 245, 3) := by decide +kernel
theorem dX5_hail_31 : decode cX5_hail 31 = .ok (.bipush 60, 2) := by decide +kernel
theorem dX5_hail_33 : decode cX5_hail 33 = .ok (.ireturn, 1) := by decide +kernel
theorem dX5_hail_34 : decode cX5_hail 34 = .ok (.aload_n 0, 1) := by decide +kernel
theorem dX5_hail_35 : decode cX5_hail 35 = .ok (.iconst 4, 1) := by decide +kernel
theorem dX5_hail_36 : decode cX5_hail 36 = .ok (.invokevirtual 245, 3) := by decide +kernel
theorem dX5_hail_39 : decode cX5_hail 39 = .ok (.iload_n 1, 1) := by decide +kernel
theorem dX5_hail_40 : decode cX5_hail 40 = .ok (.ireturn, 1) := by decide +kernel
theorem dX5_as_0 : decode cX5_as 0 = .ok (.aload_n 0, 1) := by decide +kernel
theorem dX5_as_1 : decode cX5_as 1 = .ok (.iconst 0, 1) := by decide +kernel
theorem dX5_as_2 : decode cX5_as 2 = .ok (.putfield 53, 3) := by decide +kernel
theorem dX5_as_5 : decode cX5_as 5 = .ok (.aload_n 0, 1) := by decide +kernel
theorem dX5_as_6 : decode cX5_as 6 = .ok (.getfield 12, 3) := by decide +kernel
theorem dX5_as_9 : decode cX5_as 9 = .ok (.iload_n 1, 1) := by decide +kernel
theorem dX5_as_10 : decode cX5_as 10 = .ok (.invokevirtual 105, 3) := by decide +kernel
theorem dX5_as_13 : decode cX5_as 13 = .ok (.ifCond .ne 5, 3) := by decide +kernel
theorem dX5_as_16 : decode cX5_as 16 = .ok (.iconst (-1), 1) := by decide +kernel
theorem dX5_as_17 : decode cX5_as 17 = .ok (.ireturn, 1) := by decide +kernel
theorem dX5_as_18 : decode cX5_as 18 = .ok (.iload_n 2, 1) := by decide +kernel
theorem dX5_as_19 : decode cX5_as 19 = .ok (.ifCond .lt 8, 3) := by decide +kernel
theorem dX5_as_22 : decode cX5_as 22 = .ok (.iload_n 2, 1) := by decide +kernel
theorem dX5_as_23 : decode cX5_as 23 = .ok (.iconst 3, 1) := by decide +kernel
theorem dX5_as_24 : decode cX5_as 24 = .ok (.if_icmp .lt 6, 3) := by decide +kernel
theorem dX5_as_27 : decode cX5_as 27 = .ok (.bipush (-2), 2) := by decide +kernel
theorem dX5_as_29 : decode cX5_as 29 = .ok (.ireturn, 1) := by decide +kernel
theorem dX5_as_30 : decode cX5_as 30 = .ok (.aload_n 0, 1) := by decide +kernel
theorem dX5_as_31 : decode cX5_as 31 = .ok (.getfield 12, 3) := by decide +kernel
theorem dX5_as_34 : decode cX5_as 34 = .ok (.getfield 108, 3) := by decide +kernel
theorem dX5_as_37 : decode cX5_as 37 = .ok (.iload_n 1, 1) := by decide +kernel
theorem dX5_as_38 : decode cX5_as 38 = .ok (.iaload, 1) := by decide +kernel
theorem dX5_as_39 : decode cX5_as 39 = .ok (.iload_n 2, 1) := by decide +kernel
theorem dX5_as_40 : decode cX5_as 40 = .ok (.if_icmp .ge 11, 3) := by decide +kernel
theorem dX5_as_43 : decode cX5_as 43 = .ok (.aload_n 0, 1) := by decide +kernel
theorem dX5_as_44 : decode cX5_as 44 = .ok (.iconst 2, 1) := by decide +kernel
theorem dX5_as_45 : decode cX5_as 45 = .ok (.invokevirtual 68, 3) := by decide +kernel
theorem dX5_as_48 : decode cX5_as 48 = .ok (.goto 4, 3) := by decide +kernel
theorem dX5_as_51 : decode cX5_as 51 = .ok (.iconst 1, 1) := by decide +kernel
theorem dX5_as_52 : decode cX5_as 52 = .ok (.ireturn, 1) := by decide +kernel
theorem dX5_trace_0 : decode cX5_trace 0 = .ok (.aload_n 0, 1) := by decide +kernel
theorem dX5_trace_1 : decode cX5_trace 1 = .ok (.getfield 248, 3) := by decide +kernel
theorem dX5_trace_4 : decode cX5_trace 4 = .ok (.ireturn, 1) := by decide +kernel
theorem dX5_fault_0 : decode cX5_fault 0 = .ok (.aload_n 0, 1) := by decide +kernel
theorem dX5_fault_1 : decode cX5_fault 1 = .ok (.getfield 53, 3) := by decide +kernel
theorem dX5_fault_4 : decode cX5_fault 4 = .ok (.ireturn, 1) := by decide +kernel
theorem dX5_many_0 : decode cX5_many 0 = .ok (.iload_n 1, 1) := by decide +kernel
theorem dX5_many_1 : decode cX5_many 1 = .ok (.tableswitch 63 0 3 #[31, 39, 47, 55], 31) := by decide +kernel
theorem dX5_many_32 : decode cX5_many 32 = .ok (.aload_n 0, 1) := by decide +kernel
theorem dX5_many_33 : decode cX5_many 33 = .ok (.getfield 12, 3) := by decide +kernel
theorem dX5_many_36 : decode cX5_many 36 = .ok (.getfield 251, 3) := by decide +kernel
theorem dX5_many_39 : decode cX5_many 39 = .ok (.ireturn, 1) := by decide +kernel
theorem dX5_many_40 : decode cX5_many 40 = .ok (.aload_n 0, 1) := by decide +kernel
theorem dX5_many_41 : decode cX5_many 41 = .ok (.getfield 12, 3) := by decide +kernel
theorem dX5_many_44 : decode cX5_many 44 = .ok (.getfield 89, 3) := by decide +kernel
theorem dX5_many_47 : decode cX5_many 47 = .ok (.ireturn, 1) := by decide +kernel
theorem dX5_many_48 : decode cX5_many 48 = .ok (.aload_n 0, 1) := by decide +kernel
theorem dX5_many_49 : decode cX5_many 49 = .ok (.getfield 12, 3) := by decide +kernel
theorem dX5_many_52 : decode cX5_many 52 = .ok (.getfield 118, 3) := by decide +kernel
theorem dX5_many_55 : decode cX5_many 55 = .ok (.ireturn, 1) := by decide +kernel
theorem dX5_many_56 : decode cX5_many 56 = .ok (.aload_n 0, 1) := by decide +kernel
theorem dX5_many_57 : decode cX5_many 57 = .ok (.getfield 30, 3) := by decide +kernel
theorem dX5_many_60 : decode cX5_many 60 = .ok (.getfield 83, 3) := by decide +kernel
theorem dX5_many_63 : decode cX5_many 63 = .ok (.ireturn, 1) := by decide +kernel
theorem dX5_many_64 : decode cX5_many 64 = .ok (.bipush (-2), 2) := by decide +kernel
theorem dX5_many_66 : decode cX5_many 66 = .ok (.ireturn, 1) := by decide +kernel
theorem dX5_tellAsThing_0 : decode cX5_tellAsThing 0 = .ok (.aload_n 0, 1) := by decide +kernel
theorem dX5_tellAsThing_1 : decode cX5_tellAsThing 1 = .ok (.iconst 1, 1) := by decide +kernel
theorem dX5_tellAsThing_2 : decode cX5_tellAsThing 2 = .ok (.invokevirtual 245, 3) := by decide +kernel
theorem dX5_tellAsThing_5 : decode cX5_tellAsThing 5 = .ok (.aload_n 0, 1) := by decide +kernel
theorem dX5_tellAsThing_6 : decode cX5_tellAsThing 6 = .ok (.getfield 12, 3) := by decide +kernel
theorem dX5_tellAsThing_9 : decode cX5_tellAsThing 9 = .ok (.getfield 111, 3) := by decide +kernel
theorem dX5_tellAsThing_12 : decode cX5_tellAsThing 12 = .ok (.iload_n 1, 1) := by decide +kernel
theorem dX5_tellAsThing_13 : decode cX5_tellAsThing 13 = .ok (.iaload, 1) := by decide +kernel
theorem dX5_tellAsThing_14 : decode cX5_tellAsThing 14 = .ok (.ireturn, 1) := by decide +kernel
theorem dX5_tellAsFood_0 : decode cX5_tellAsFood 0 = .ok (.aload_n 0, 1) := by decide +kernel
theorem dX5_tellAsFood_1 : decode cX5_tellAsFood 1 = .ok (.iconst 2, 1) := by decide +kernel
theorem dX5_tellAsFood_2 : decode cX5_tellAsFood 2 = .ok (.invokevirtual 245, 3) := by decide +kernel
theorem dX5_tellAsFood_5 : decode cX5_tellAsFood 5 = .ok (.aload_n 0, 1) := by decide +kernel
theorem dX5_tellAsFood_6 : decode cX5_tellAsFood 6 = .ok (.iload_n 1, 1) := by decide +kernel
theorem dX5_tellAsFood_7 : decode cX5_tellAsFood 7 = .ok (.invokevirtual 242, 3) := by decide +kernel
theorem dX5_tellAsFood_10 : decode cX5_tellAsFood 10 = .ok (.bipush 100, 2) := by decide +kernel
theorem dX5_tellAsFood_12 : decode cX5_tellAsFood 12 = .ok (.iadd, 1) := by decide +kernel
theorem dX5_tellAsFood_13 : decode cX5_tellAsFood 13 = .ok (.ireturn, 1) := by decide +kernel
theorem dX5_tellAsChild_0 : decode cX5_tellAsChild 0 = .ok (.aload_n 0, 1) := by decide +kernel
theorem dX5_tellAsChild_1 : decode cX5_tellAsChild 1 = .ok (.iconst 3, 1) := by decide +kernel
theorem dX5_tellAsChild_2 : decode cX5_tellAsChild 2 = .ok (.invokevirtual 245, 3) := by decide +kernel
theorem dX5_tellAsChild_5 : decode cX5_tellAsChild 5 = .ok (.aload_n 0, 1) := by decide +kernel
theorem dX5_tellAsChild_6 : decode cX5_tellAsChild 6 = .ok (.iload_n 1, 1) := by decide +kernel
theorem dX5_tellAsChild_7 : decode cX5_tellAsChild 7 = .ok (.invokevirtual 239, 3) := by decide +kernel
theorem dX5_tellAsChild_10 : decode cX5_tellAsChild 10 = .ok (.istore_n 2, 1) := by decide +kernel
theorem dX5_tellAsChild_11 : decode cX5_tellAsChild 11 = .ok (.iload_n 2, 1) := by decide +kernel
theorem dX5_tellAsChild_12 : decode cX5_tellAsChild 12 = .ok (.aload_n 0, 1) := by decide +kernel
theorem dX5_tellAsChild_13 : decode cX5_tellAsChild 13 = .ok (.iload_n 1, 1) := by decide +kernel
theorem dX5_tellAsChild_14 : decode cX5_tellAsChild 14 = .ok (.invokevirtual 242, 3) := by decide +kernel
theorem dX5_tellAsChild_17 : decode cX5_tellAsChild 17 = .ok (.iadd, 1) := by decide +kernel
theorem dX5_tellAsChild_18 : decode cX5_tellAsChild 18 = .ok (.ireturn, 1) := by decide +kernel
theorem dX5_leave_0 : decode cX5_leave 0 = .ok (.aload_n 0, 1) := by decide +kernel
theorem dX5_leave_1 : decode cX5_leave 1 = .ok (.bipush 31, 2) := by decide +kernel
theorem dX5_leave_3 : decode cX5_leave 3 = .ok (.aload_n 0, 1) := by decide +kernel
theorem dX5_leave_4 : decode cX5_leave 4 = .ok (.getfield 248, 3) := by decide +kernel
theorem dX5_leave_7 : decode cX5_leave 7 = .ok (.imul, 1) := by decide +kernel
theorem dX5_leave_8 : decode cX5_leave 8 = .ok (.iload_n 1, 1) := by decide +kernel
theorem dX5_leave_9 : decode cX5_leave 9 = .ok (.iadd, 1) := by decide +kernel
theorem dX5_leave_10 : decode cX5_leave 10 = .ok (.putfield 248, 3) := by decide +kernel
theorem dX5_leave_13 : decode cX5_leave 13 = .ok (.return_, 1) := by decide +kernel
theorem dX5_faulted_0 : decode cX5_faulted 0 = .ok (.aload_n 0, 1) := by decide +kernel
theorem dX5_faulted_1 : decode cX5_faulted 1 = .ok (.iload_n 1, 1) := by decide +kernel
theorem dX5_faulted_2 : decode cX5_faulted 2 = .ok (.putfield 53, 3) := by decide +kernel
theorem dX5_faulted_5 : decode cX5_faulted 5 = .ok (.bipush (-10), 2) := by decide +kernel
theorem dX5_faulted_7 : decode cX5_faulted 7 = .ok (.iload_n 1, 1) := by decide +kernel
theorem dX5_faulted_8 : decode cX5_faulted 8 = .ok (.isub, 1) := by decide +kernel
theorem dX5_faulted_9 : decode cX5_faulted 9 = .ok (.ireturn, 1) := by decide +kernel
theorem dX5_isSheet_0 : decode cX5_isSheet 0 = .ok (.iload_n 0, 1) := by decide +kernel
theorem dX5_isSheet_1 : decode cX5_isSheet 1 = .ok (.ifCond .lt 12, 3) := by decide +kernel
theorem dX5_isSheet_4 : decode cX5_isSheet 4 = .ok (.iload_n 0, 1) := by decide +kernel
theorem dX5_isSheet_5 : decode cX5_isSheet 5 = .ok (.iconst 4, 1) := by decide +kernel
theorem dX5_isSheet_6 : decode cX5_isSheet 6 = .ok (.if_icmp .ge 7, 3) := by decide +kernel
theorem dX5_isSheet_9 : decode cX5_isSheet 9 = .ok (.iconst 1, 1) := by decide +kernel
theorem dX5_isSheet_10 : decode cX5_isSheet 10 = .ok (.goto 4, 3) := by decide +kernel
theorem dX5_isSheet_13 : decode cX5_isSheet 13 = .ok (.iconst 0, 1) := by decide +kernel
theorem dX5_isSheet_14 : decode cX5_isSheet 14 = .ok (.ireturn, 1) := by decide +kernel
theorem dX5_isLane_0 : decode cX5_isLane 0 = .ok (.iload_n 0, 1) := by decide +kernel
theorem dX5_isLane_1 : decode cX5_isLane 1 = .ok (.ifCond .lt 12, 3) := by decide +kernel
theorem dX5_isLane_4 : decode cX5_isLane 4 = .ok (.iload_n 0, 1) := by decide +kernel
theorem dX5_isLane_5 : decode cX5_isLane 5 = .ok (.iconst 3, 1) := by decide +kernel
theorem dX5_isLane_6 : decode cX5_isLane 6 = .ok (.if_icmp .ge 7, 3) := by decide +kernel
theorem dX5_isLane_9 : decode cX5_isLane 9 = .ok (.iconst 1, 1) := by decide +kernel
theorem dX5_isLane_10 : decode cX5_isLane 10 = .ok (.goto 4, 3) := by decide +kernel
theorem dX5_isLane_13 : decode cX5_isLane 13 = .ok (.iconst 0, 1) := by decide +kernel
theorem dX5_isLane_14 : decode cX5_isLane 14 = .ok (.ireturn, 1) := by decide +kernel
